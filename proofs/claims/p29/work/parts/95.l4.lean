set_option maxHeartbeats 4000000 in
set_option maxRecDepth 100000 in
theorem c_L_come (l : Launch) (D : DT) (a : Nat → Nat) (f : Nat → Int32) (na : Nat → Nat → Int32) (w td vl : Nat → Int32) (L pt fl : Nat) (kd : Int32) (kp : Nat) (pq ps : Nat → Option HH) (mk n b : Nat) (hW : WF f mk n b) (hNR : NR f na n) (hF : FB f) (hkp : kp ≤ 6) (l9 : List (Nat → Int32)) (hHL : HL kp pq l9) (cr : Nat) (hcr : cr ≤ 1000) (hS : SI cr f) (hL : L ≤ 80) (hch : ∀ k, k < L → ∃ ch : Nat, ch < 256 ∧ td k = nI ch) (g d nd : Nat) (hg6 : g < 6) (hd10 : d < 10) (he12 : nd = 1 ∨ nd = 2) : MW l yL_come wsL_come 6 145 16 340 D [.ref (a 19), .int (nI g), .int (nI d), .int (nI nd)] (wB D a f na w td vl L pt fl kd kp (fqa pq) (fqa ps) (tlW D pq ps)) (lwP D a ps (wB D a f na w td vl L pt fl kd kp (fqa pq) (fqa ps) (tlW D pq ps)) (cr + 1)) := by
  obtain ⟨hmk, hm40, hn8, hb0, hb01, hb08, hn8b, hst, hno, how, hdo, hb0a, hb0c, hb0d, hb0z⟩ := id hW
  have hm8 : n ≤ 8 := by omega
  obtain ⟨eN1, eN2, -⟩ := hW.N
  refine MW.of (cc := cL_come) (maxL := 19) (ret := (some .boolean)) (lv := [(0, .ref (a 19)), (1, .int (nI g)), (2, .int (nI d)), (3, .int (nI nd))]) (by decide +kernel) rfl (Nat.le_of_ble_eq_true rfl) rfl ?_
  intro p e s m below meth c A hAe hAg X hr hmn
  refine g_aload_n X dL_come_0 rfl 0 rfl rfl ?_
  refine g_iconst (v := (3 : Int32)) X dL_come_1 (by decide) rfl ?_
  refine g_callVRX (w0 := []) (n := 1) (As := [_]) (rest := []) X (c_X6_count l D a f na w td vl L pt fl kd kp (fqa pq) (fqa ps) (tlW D pq ps) mk n b hW hNR _) gL_come_X6_count rfl (by decide +kernel) ⟨Nat.le_of_ble_eq_true rfl, Nat.le_of_ble_eq_true rfl⟩ 20 rfl rfl rfl rfl rfl (Nat.le_of_ble_eq_true rfl) dL_come_2 ⟨Nat.le_of_ble_eq_true rfl, Nat.le_of_ble_eq_true rfl⟩ rfl (fun v hv => ?_)
  obtain rfl := hv
  refine g_st (st' := [_]) rfl ?_
  refine g_topi (oC3) ?_
  refine g_istore X [(4, _), (0, _), (1, _), (2, _), (3, _)] dL_come_5 (by decide) rfl rfl ?_
  refine g_aload_n X dL_come_7 rfl 1 rfl rfl ?_
  refine g_iconst (v := (4 : Int32)) X dL_come_8 (by decide) rfl ?_
  refine g_callVRX (w0 := []) (n := 1) (As := [_]) (rest := []) X (c_X6_count l D a f na w td vl L pt fl kd kp (fqa pq) (fqa ps) (tlW D pq ps) mk n b hW hNR _) gL_come_X6_count rfl (by decide +kernel) ⟨Nat.le_of_ble_eq_true rfl, Nat.le_of_ble_eq_true rfl⟩ 20 rfl rfl rfl rfl rfl (Nat.le_of_ble_eq_true rfl) dL_come_9 ⟨Nat.le_of_ble_eq_true rfl, Nat.le_of_ble_eq_true rfl⟩ rfl (fun v hv => ?_)
  obtain rfl := hv
  refine g_st (st' := [_]) rfl ?_
  refine g_topi (oC4) ?_
  refine g_istore X [(5, _), (4, _), (0, _), (1, _), (2, _), (3, _)] dL_come_12 (by decide) rfl rfl ?_
  refine g_aload_n X dL_come_14 rfl 2 rfl rfl ?_
  refine g_iconst (v := (5 : Int32)) X dL_come_15 (by decide) rfl ?_
  refine g_callVRX (w0 := []) (n := 1) (As := [_]) (rest := []) X (c_X6_count l D a f na w td vl L pt fl kd kp (fqa pq) (fqa ps) (tlW D pq ps) mk n b hW hNR _) gL_come_X6_count rfl (by decide +kernel) ⟨Nat.le_of_ble_eq_true rfl, Nat.le_of_ble_eq_true rfl⟩ 20 rfl rfl rfl rfl rfl (Nat.le_of_ble_eq_true rfl) dL_come_16 ⟨Nat.le_of_ble_eq_true rfl, Nat.le_of_ble_eq_true rfl⟩ rfl (fun v hv => ?_)
  obtain rfl := hv
  refine g_st (st' := [_]) rfl ?_
  refine g_topi (oC5) ?_
  refine g_istore X [(6, _), (5, _), (4, _), (0, _), (1, _), (2, _), (3, _)] dL_come_19 (by decide) rfl rfl ?_
  refine g_aload_n X dL_come_21 rfl 3 rfl rfl ?_
  refine g_bipush (v := (6 : Int32)) X dL_come_22 (by decide) rfl ?_
  refine g_callVRX (w0 := []) (n := 1) (As := [_]) (rest := []) X (c_X6_count l D a f na w td vl L pt fl kd kp (fqa pq) (fqa ps) (tlW D pq ps) mk n b hW hNR _) gL_come_X6_count rfl (by decide +kernel) ⟨Nat.le_of_ble_eq_true rfl, Nat.le_of_ble_eq_true rfl⟩ 20 rfl rfl rfl rfl rfl (Nat.le_of_ble_eq_true rfl) dL_come_24 ⟨Nat.le_of_ble_eq_true rfl, Nat.le_of_ble_eq_true rfl⟩ rfl (fun v hv => ?_)
  obtain rfl := hv
  refine g_st (st' := [_]) rfl ?_
  refine g_topi (oC6) ?_
  refine g_istore X [(7, _), (6, _), (5, _), (4, _), (0, _), (1, _), (2, _), (3, _)] dL_come_27 (by decide) rfl rfl ?_
  refine g_aload_n X dL_come_29 rfl 4 rfl rfl ?_
  refine g_iconst (v := (2 : Int32)) X dL_come_30 (by decide) rfl ?_
  refine g_callVRX (w0 := []) (n := 1) (As := [_]) (rest := []) X (c_X6_count l D a f na w td vl L pt fl kd kp (fqa pq) (fqa ps) (tlW D pq ps) mk n b hW hNR _) gL_come_X6_count rfl (by decide +kernel) ⟨Nat.le_of_ble_eq_true rfl, Nat.le_of_ble_eq_true rfl⟩ 20 rfl rfl rfl rfl rfl (Nat.le_of_ble_eq_true rfl) dL_come_31 ⟨Nat.le_of_ble_eq_true rfl, Nat.le_of_ble_eq_true rfl⟩ rfl (fun v hv => ?_)
  obtain rfl := hv
  refine g_st (st' := [_]) rfl ?_
  refine g_topi (oC2.trans hn8) ?_
  refine g_istore X [(8, _), (7, _), (6, _), (5, _), (4, _), (0, _), (1, _), (2, _), (3, _)] dL_come_34 (by decide) rfl rfl ?_
  have L56 : ∀ (wp : Bool) (hwp : wp = cmW f (nI g)), GG p l e (wRoom 6 145 16 340) s m ([.ref (a 19), .int (nI g), .int (nI d), .int (nI nd)] : List Value).toArray below meth c D A 19 false 0 0 (MQ below (wrQ D (wB D a f na w td vl L pt fl kd kp (fqa pq) (fqa ps) (tlW D pq ps)) s.heap.size (lwP D a ps (wB D a f na w td vl L pt fl kd kp (fqa pq) (fqa ps) (tlW D pq ps)) (cr + 1))) ([.ref (a 19), .int (nI g), .int (nI d), .int (nI nd)] : List Value).toArray s 16 340 (va_A (wB D a f na w td vl L pt fl kd kp (fqa pq) (fqa ps) (tlW D pq ps)) s.heap.size)) (wB D a f na w td vl L pt fl kd kp (fqa pq) (fqa ps) (tlW D pq ps)) 56 [(8, .int (nI n)), (7, .int (f 80)), (6, .int (f 79)), (5, .int (f 78)), (4, .int (f 77)), (0, .ref (a 19)), (1, .int (nI g)), (2, .int (nI d)), (3, .int (nI nd))] [.int (b2i wp)] := by
    intro wp hwp
    refine g_istore X [(9, _), (8, _), (7, _), (6, _), (5, _), (4, _), (0, _), (1, _), (2, _), (3, _)] dL_come_56 (by decide) rfl rfl ?_
    refine g_iconst (v := ((-1) : Int32)) X dL_come_58 (by decide) rfl ?_
    refine g_istore X [(10, _), (9, _), (8, _), (7, _), (6, _), (5, _), (4, _), (0, _), (1, _), (2, _), (3, _)] dL_come_59 (by decide) rfl rfl ?_
    have L119 : ∀ (x : Int32) (hAt : (x = -1 ∧ (wp = true ∨ ∀ j, j < n → isNote f (nI g) (nI d) (nI nd) j = false)) ∨ (∃ j, j < n ∧ wp = false ∧ isNote f (nI g) (nI d) (nI nd) j = true ∧ x = nI j)), GG p l e (wRoom 6 145 16 340) s m ([.ref (a 19), .int (nI g), .int (nI d), .int (nI nd)] : List Value).toArray below meth c D A 19 false 0 0 (MQ below (wrQ D (wB D a f na w td vl L pt fl kd kp (fqa pq) (fqa ps) (tlW D pq ps)) s.heap.size (lwP D a ps (wB D a f na w td vl L pt fl kd kp (fqa pq) (fqa ps) (tlW D pq ps)) (cr + 1))) ([.ref (a 19), .int (nI g), .int (nI d), .int (nI nd)] : List Value).toArray s 16 340 (va_A (wB D a f na w td vl L pt fl kd kp (fqa pq) (fqa ps) (tlW D pq ps)) s.heap.size)) (wB D a f na w td vl L pt fl kd kp (fqa pq) (fqa ps) (tlW D pq ps)) 119 [(10, .int (x)), (9, .int (b2i wp)), (8, .int (nI n)), (7, .int (f 80)), (6, .int (f 79)), (5, .int (f 78)), (4, .int (f 77)), (0, .ref (a 19)), (1, .int (nI g)), (2, .int (nI d)), (3, .int (nI nd))] [] := by
      intro x hAt
      rcases hAt with ⟨rfl, hno⟩ | ⟨j, hj, hwf, hm, rfl⟩
      · rw [hwp] at hno
        refine g_aload_n X dL_come_119 rfl 7 rfl rfl ?_
        refine g_iload_n X dL_come_120 rfl 8 rfl rfl ?_
        refine g_iload_n X dL_come_121 rfl 9 rfl rfl ?_
        refine g_iload_n X dL_come_122 rfl 10 rfl rfl ?_
        refine g_callSRX (w0 := []) (n := 4) (As := [_, _, _, _]) (rest := []) X (c_L_walk l D a f na w td vl L pt fl kd kp (fqa pq) (fqa ps) (tlW D pq ps) mk n b hW hNR g d (by omega) (by omega) (nI nd)) gL_come_L_walk rfl (by decide +kernel) ⟨Nat.le_of_ble_eq_true rfl, Nat.le_of_ble_eq_true rfl⟩ rfl rfl rfl (Nat.le_of_ble_eq_true rfl) dL_come_123 ⟨Nat.le_of_ble_eq_true rfl, Nat.le_of_ble_eq_true rfl⟩ rfl (fun v hv => ?_)
        obtain rfl := hv
        refine g_st (st' := [_]) rfl ?_
        obtain ⟨⟨r9, hr7, er9⟩, hi41⟩ := wlk_le f g d (nI nd)
        obtain ⟨i9, ei9⟩ : ∃ i9, (wlk f g d (nI nd)).2 = i9 := ⟨_, rfl⟩
        rw [ei9] at hi41
        refine g_topi ((show lwk f g d (nI nd) = nI (10 * i9 + r9) from by unfold lwk; rw [er9, ei9, nI_add]; congr 1; omega)) ?_
        rcases Nat.eq_zero_or_pos r9 with h0 | h0
        · refine g_istore X [(11, _), (10, _), (9, _), (8, _), (7, _), (6, _), (5, _), (4, _), (0, _), (1, _), (2, _), (3, _)] dL_come_126 (by decide) rfl rfl ?_
          rcases Bool.eq_false_or_eq_true wp with hwt | hwt
          · refine g_lve [(11, .int (nI (10 * i9 + r9))), (10, .int (-1)), (9, .int (1)), (8, .int (nI n)), (7, .int (f 80)), (6, .int (f 79)), (5, .int (f 78)), (4, .int (f 77)), (0, .ref (a 19)), (1, .int (nI g)), (2, .int (nI d)), (3, .int (nI nd))] (by rw [hwt]; rfl) ?_
            have hcw : cmW f (nI g) = true := hwp.symm.trans hwt
            refine g_aload_n X dL_come_128 rfl 8 rfl rfl ?_
            refine g_iload X dL_come_129 1 rfl rfl ?_
            refine g_if_lt X dL_come_131 138 (by decide) rfl (fun h131 => ?_) (fun h131 => absurd h131 (by decide))
            refine g_iload X dL_come_138 0 rfl rfl ?_
            refine g_bipush (v := (10 : Int32)) X dL_come_140 (by decide) rfl ?_
            refine g_irem X dL_come_142 (by decide) rfl ?_
            refine g_topi (y := nI ((10 * i9 + r9) % 10)) (nI_rem (a := (10 * i9 + r9)) (b := 10) (by omega) (by omega)) ?_
            refine g_topi ((show nI ((10 * i9 + r9) % 10) = nI r9 from by rw [show (10 * i9 + r9) % 10 = r9 from by omega])) ?_
            refine g_callVRX (w0 := []) (n := 1) (As := [_]) (rest := []) X (c_X6_ended l D a f na w td vl L pt fl kd kp (fqa pq) (fqa ps) (tlW D pq ps) mk n b hW hNR _) gL_come_X6_ended rfl (by decide +kernel) ⟨Nat.le_of_ble_eq_true rfl, Nat.le_of_ble_eq_true rfl⟩ 20 rfl rfl rfl rfl rfl (Nat.le_of_ble_eq_true rfl) dL_come_143 ⟨Nat.le_of_ble_eq_true rfl, Nat.le_of_ble_eq_true rfl⟩ rfl (fun v hv => ?_)
            obtain rfl := hv
            refine g_st (st' := [_]) rfl ?_
            refine g_topi (oEn (r := r9) (by omega)) ?_
            refine g_istore X [(12, _), (11, _), (10, _), (9, _), (8, _), (7, _), (6, _), (5, _), (4, _), (0, _), (1, _), (2, _), (3, _)] dL_come_146 (by decide) rfl rfl ?_
            refine g_aload_n X dL_come_148 rfl 9 rfl rfl ?_
            refine g_bipush (v := (7 : Int32)) X dL_come_149 (by decide) rfl ?_
            refine g_callVRX (w0 := []) (n := 1) (As := [_]) (rest := []) X (c_X6_count l D a f na w td vl L pt fl kd kp (fqa pq) (fqa ps) (tlW D pq ps) mk n b hW hNR _) gL_come_X6_count rfl (by decide +kernel) ⟨Nat.le_of_ble_eq_true rfl, Nat.le_of_ble_eq_true rfl⟩ 20 rfl rfl rfl rfl rfl (Nat.le_of_ble_eq_true rfl) dL_come_151 ⟨Nat.le_of_ble_eq_true rfl, Nat.le_of_ble_eq_true rfl⟩ rfl (fun v hv => ?_)
            obtain rfl := hv
            refine g_st (st' := [_]) rfl ?_
            refine g_topi (oC7) ?_
            refine g_istore X [(13, _), (12, _), (11, _), (10, _), (9, _), (8, _), (7, _), (6, _), (5, _), (4, _), (0, _), (1, _), (2, _), (3, _)] dL_come_154 (by decide) rfl rfl ?_
            refine g_aload_n X dL_come_156 rfl 10 rfl rfl ?_
            refine g_bipush (v := (8 : Int32)) X dL_come_157 (by decide) rfl ?_
            refine g_callVRX (w0 := []) (n := 1) (As := [_]) (rest := []) X (c_X6_count l D a f na w td vl L pt fl kd kp (fqa pq) (fqa ps) (tlW D pq ps) mk n b hW hNR _) gL_come_X6_count rfl (by decide +kernel) ⟨Nat.le_of_ble_eq_true rfl, Nat.le_of_ble_eq_true rfl⟩ 20 rfl rfl rfl rfl rfl (Nat.le_of_ble_eq_true rfl) dL_come_159 ⟨Nat.le_of_ble_eq_true rfl, Nat.le_of_ble_eq_true rfl⟩ rfl (fun v hv => ?_)
            obtain rfl := hv
            refine g_st (st' := [_]) rfl ?_
            refine g_topi (oC8) ?_
            refine g_istore X [(14, _), (13, _), (12, _), (11, _), (10, _), (9, _), (8, _), (7, _), (6, _), (5, _), (4, _), (0, _), (1, _), (2, _), (3, _)] dL_come_162 (by decide) rfl rfl ?_
            refine g_aload_n X dL_come_164 rfl 11 rfl rfl ?_
            refine g_iload_n X dL_come_165 rfl 12 rfl rfl ?_
            refine g_iload_n X dL_come_166 rfl 13 rfl rfl ?_
            refine g_iload_n X dL_come_167 rfl 14 rfl rfl ?_
            refine g_iconst (v := (0 : Int32)) X dL_come_168 (by decide) rfl ?_
            refine g_callVXs (n := 4) (As := [_, _, _, _]) (rest := []) X hAg rfl (c_X6_walk l D a f na w td vl L pt fl kd kp (fqa pq) (fqa ps) (tlW D pq ps) mk n b hW hNR _ _ _ _) gL_come_X6_walk rfl (by decide +kernel) ⟨Nat.le_of_ble_eq_true rfl, Nat.le_of_ble_eq_true rfl⟩ 20 rfl rfl rfl rfl (Nat.le_of_ble_eq_true rfl) dL_come_169 ⟨Nat.le_of_ble_eq_true rfl, Nat.le_of_ble_eq_true rfl⟩ rfl (fun v w9 hv => ?_)
            obtain ⟨rfl, w1, rfl⟩ := hv
            refine ⟨AD.rf rfl, ?_⟩
            refine g_st (st' := [_]) rfl ?_
            refine g_topi (oWk0 (g := g) (d := d) (e := nd) hg6 hd10 he12) ?_
            refine g_topi (er9) ?_
            refine g_iload X dL_come_172 3 rfl rfl ?_
            refine g_bipush (v := (10 : Int32)) X dL_come_174 (by decide) rfl ?_
            refine g_irem X dL_come_176 (by decide) rfl ?_
            refine g_topi (y := nI ((10 * i9 + r9) % 10)) (nI_rem (a := (10 * i9 + r9)) (b := 10) (by omega) (by omega)) ?_
            refine g_topi ((show nI ((10 * i9 + r9) % 10) = nI r9 from by rw [show (10 * i9 + r9) % 10 = r9 from by omega])) ?_
            refine g_icmp_ne X dL_come_177 196 (by decide) rfl (fun h177 => absurd rfl h177) (fun h177 => ?_)
            refine g_aload_n X dL_come_180 rfl 11 rfl rfl ?_
            refine g_iload_n X dL_come_181 rfl 12 rfl rfl ?_
            refine g_iload_n X dL_come_182 rfl 13 rfl rfl ?_
            refine g_iload_n X dL_come_183 rfl 14 rfl rfl ?_
            refine g_iconst (v := (1 : Int32)) X dL_come_184 (by decide) rfl ?_
            refine g_callVXs (n := 4) (As := [_, _, _, _]) (rest := []) X hAg rfl (c_X6_walk l D a f na w1 td vl L pt fl kd kp (fqa pq) (fqa ps) (tlW D pq ps) mk n b hW hNR _ _ _ _) gL_come_X6_walk rfl (by decide +kernel) ⟨Nat.le_of_ble_eq_true rfl, Nat.le_of_ble_eq_true rfl⟩ 20 rfl rfl rfl rfl (Nat.le_of_ble_eq_true rfl) dL_come_185 ⟨Nat.le_of_ble_eq_true rfl, Nat.le_of_ble_eq_true rfl⟩ rfl (fun v w9 hv => ?_)
            obtain ⟨rfl, w2, rfl⟩ := hv
            refine ⟨AD.rf rfl, ?_⟩
            refine g_st (st' := [_]) rfl ?_
            refine g_topi (oWk1 (g := g) (d := d) (e := nd) hg6 hd10 he12) ?_
            refine g_topi ((by rw [ei9])) ?_
            refine g_iload X dL_come_188 3 rfl rfl ?_
            refine g_bipush (v := (10 : Int32)) X dL_come_190 (by decide) rfl ?_
            refine g_idiv X dL_come_192 (by decide) rfl ?_
            refine g_topi (y := nI ((10 * i9 + r9) / 10)) (nI_div (a := (10 * i9 + r9)) (b := 10) (by omega) (by omega)) ?_
            refine g_topi ((show nI ((10 * i9 + r9) / 10) = nI i9 from by rw [show (10 * i9 + r9) / 10 = i9 from by omega])) ?_
            refine g_icmp_eq X dL_come_193 198 (by decide) rfl (fun h193 => ?_) (fun h193 => absurd rfl h193)
            refine g_aload_n X dL_come_198 rfl 11 rfl rfl ?_
            refine g_iload_n X dL_come_199 rfl 12 rfl rfl ?_
            refine g_iload_n X dL_come_200 rfl 13 rfl rfl ?_
            refine g_iload_n X dL_come_201 rfl 14 rfl rfl ?_
            refine g_callVXs (n := 3) (As := [_, _, _]) (rest := []) X hAg rfl (c_X6_come l D a f na w2 td vl L pt fl kd kp pq ps mk n b hW hNR hF hkp hHL.hq _ _ _) gL_come_X6_come rfl (by decide +kernel) ⟨Nat.le_of_ble_eq_true rfl, Nat.le_of_ble_eq_true rfl⟩ 20 rfl rfl rfl rfl (Nat.le_of_ble_eq_true rfl) dL_come_202 ⟨Nat.le_of_ble_eq_true rfl, Nat.le_of_ble_eq_true rfl⟩ rfl (fun v w9 hv => ?_)
            obtain ⟨rfl, fA, naA, wA, kpA, pqA, efA, hNA, hAA, hkpA, hHLA, ekA, rfl⟩ := ch_out hv hkp hHL hF ⟨_, hNR, hn8⟩
            have hADA := hAA
            refine ⟨hAA, ?_⟩
            refine g_st (st' := [_]) rfl ?_
            obtain ⟨hrx, hWA, hSA, h77, h78, h79, h80, h81, h82, h83, ⟨t, ht, elt, ent⟩, en0, en1, en2⟩ := come_C hW hS hg6 hd10 he12 hno (er9.trans (by rw [h0]; rfl)) ei9 efA
            rw [hcw] at hWA h81 h82 ent en0 en1 en2
            rw [if_pos rfl] at hWA h82 ent en0 en1 en2
            rw [if_pos rfl] at h81
            refine g_topi ((hrx.trans (show (0 : Int32) = nI r9 from by rw [h0]; rfl))) ?_
            have hNRA := hNA.to hWA
            have hFA : FB fA := by rw [efA]; exact come_fb ⟨mk, n, b, hW⟩ hF
            obtain ⟨hmkA, hm40A, hn8A, hb0A, hb0A1, hb0A8, hn8Ab, hstA, hnoA, howA, hdoA, hb0Aa, hb0Ac, hb0Ad, hb0Az⟩ := id hWA
            have hm8A : (min (0 + 1) b) ≤ 8 := by omega
            obtain ⟨eN1A, eN2A, -⟩ := hWA.N
            refine g_istore X [(15, _), (14, _), (13, _), (12, _), (11, _), (10, _), (9, _), (8, _), (7, _), (6, _), (5, _), (4, _), (0, _), (1, _), (2, _), (3, _)] dL_come_205 (by decide) rfl rfl ?_
            refine g_aload_n X dL_come_207 rfl 12 rfl rfl ?_
            refine g_iconst (v := (3 : Int32)) X dL_come_208 (by decide) rfl ?_
            refine g_callVRX (w0 := []) (n := 1) (As := [_]) (rest := []) X (c_X6_count l D a fA naA wA td vl L pt fl kd kpA (fqa pqA) (fqa ps) (tlW D pqA ps) mk (min (0 + 1) b) b hWA hNRA _) gL_come_X6_count rfl (by decide +kernel) ⟨Nat.le_of_ble_eq_true rfl, Nat.le_of_ble_eq_true rfl⟩ 20 rfl rfl rfl rfl rfl (Nat.le_of_ble_eq_true rfl) dL_come_209 ⟨Nat.le_of_ble_eq_true rfl, Nat.le_of_ble_eq_true rfl⟩ rfl (fun v hv => ?_)
            obtain rfl := hv
            refine g_st (st' := [_]) rfl ?_
            refine g_topi (oC3) ?_
            refine g_topi (h77) ?_
            refine g_iload_n X dL_come_212 rfl 13 rfl rfl ?_
            refine g_icmp_ne X dL_come_213 251 (by decide) rfl (fun h213 => absurd rfl h213) (fun h213 => ?_)
            refine g_aload_n X dL_come_216 rfl 12 rfl rfl ?_
            refine g_iconst (v := (4 : Int32)) X dL_come_217 (by decide) rfl ?_
            refine g_callVRX (w0 := []) (n := 1) (As := [_]) (rest := []) X (c_X6_count l D a fA naA wA td vl L pt fl kd kpA (fqa pqA) (fqa ps) (tlW D pqA ps) mk (min (0 + 1) b) b hWA hNRA _) gL_come_X6_count rfl (by decide +kernel) ⟨Nat.le_of_ble_eq_true rfl, Nat.le_of_ble_eq_true rfl⟩ 20 rfl rfl rfl rfl rfl (Nat.le_of_ble_eq_true rfl) dL_come_218 ⟨Nat.le_of_ble_eq_true rfl, Nat.le_of_ble_eq_true rfl⟩ rfl (fun v hv => ?_)
            obtain rfl := hv
            refine g_st (st' := [_]) rfl ?_
            refine g_topi (oC4) ?_
            refine g_topi (h78) ?_
            refine g_iload X dL_come_221 10 rfl rfl ?_
            refine g_iconst (v := (1 : Int32)) X dL_come_223 (by decide) rfl ?_
            refine g_iadd X dL_come_224 rfl ?_
            refine g_icmp_ne X dL_come_225 251 (by decide) rfl (fun h225 => absurd rfl h225) (fun h225 => ?_)
            refine g_aload_n X dL_come_228 rfl 12 rfl rfl ?_
            refine g_bipush (v := (7 : Int32)) X dL_come_229 (by decide) rfl ?_
            refine g_callVRX (w0 := []) (n := 1) (As := [_]) (rest := []) X (c_X6_count l D a fA naA wA td vl L pt fl kd kpA (fqa pqA) (fqa ps) (tlW D pqA ps) mk (min (0 + 1) b) b hWA hNRA _) gL_come_X6_count rfl (by decide +kernel) ⟨Nat.le_of_ble_eq_true rfl, Nat.le_of_ble_eq_true rfl⟩ 20 rfl rfl rfl rfl rfl (Nat.le_of_ble_eq_true rfl) dL_come_231 ⟨Nat.le_of_ble_eq_true rfl, Nat.le_of_ble_eq_true rfl⟩ rfl (fun v hv => ?_)
            obtain rfl := hv
            refine g_st (st' := [_]) rfl ?_
            refine g_topi (oC7) ?_
            refine g_iload X dL_come_234 2 rfl rfl ?_
            refine g_iload X dL_come_236 6 rfl rfl ?_
            refine g_if_eq X dL_come_238 246 (by decide) rfl (fun h238 => absurd h238 (by decide)) (fun h238 => ?_)
            refine g_iload X dL_come_241 7 rfl rfl ?_
            refine g_goto X dL_come_243 247 (by decide) ?_
            refine g_iadd X dL_come_247 rfl ?_
            refine g_icmp_eq X dL_come_248 253 (by decide) rfl (fun h248 => ?_) (fun h248 => absurd (h81.trans (by first | rfl | (rw [Int32.add_zero]; done))) h248)
            refine g_iload X dL_come_253 6 rfl rfl ?_
            refine g_if_eq X dL_come_255 262 (by decide) rfl (fun h255 => absurd h255 (by decide)) (fun h255 => ?_)
            refine g_iconst (v := (0 : Int32)) X dL_come_258 (by decide) rfl ?_
            refine g_goto X dL_come_259 264 (by decide) ?_
            refine g_topi ((show (0 : Int32) = nI 0 from rfl)) ?_
            refine g_istore X [(16, _), (15, _), (14, _), (13, _), (12, _), (11, _), (10, _), (9, _), (8, _), (7, _), (6, _), (5, _), (4, _), (0, _), (1, _), (2, _), (3, _)] dL_come_264 (by decide) rfl rfl ?_
            refine g_iload X dL_come_266 6 rfl rfl ?_
            refine g_if_lt X dL_come_268 383 (by decide) rfl (fun h268 => ?_) (fun h268 => absurd h268 (by decide))
            refine g_iload X dL_come_383 1 rfl rfl ?_
            refine g_iload X dL_come_385 5 rfl rfl ?_
            refine g_bipush (v := (10 : Int32)) X dL_come_387 (by decide) rfl ?_
            refine g_irem X dL_come_389 (by decide) rfl ?_
            refine g_topi (y := nI ((10 * i9 + r9) % 10)) (nI_rem (a := (10 * i9 + r9)) (b := 10) (by omega) (by omega)) ?_
            refine g_topi ((show nI ((10 * i9 + r9) % 10) = nI r9 from by rw [show (10 * i9 + r9) % 10 = r9 from by omega])) ?_
            refine g_icmp_ne X dL_come_390 433 (by decide) rfl (fun h390 => absurd rfl h390) (fun h390 => ?_)
            refine g_aload_n X dL_come_393 rfl 13 rfl rfl ?_
            refine g_iconst (v := (5 : Int32)) X dL_come_394 (by decide) rfl ?_
            refine g_callVRX (w0 := []) (n := 1) (As := [_]) (rest := []) X (c_X6_count l D a fA naA wA td vl L pt fl kd kpA (fqa pqA) (fqa ps) (tlW D pqA ps) mk (min (0 + 1) b) b hWA hNRA _) gL_come_X6_count rfl (by decide +kernel) ⟨Nat.le_of_ble_eq_true rfl, Nat.le_of_ble_eq_true rfl⟩ 20 rfl rfl rfl rfl rfl (Nat.le_of_ble_eq_true rfl) dL_come_395 ⟨Nat.le_of_ble_eq_true rfl, Nat.le_of_ble_eq_true rfl⟩ rfl (fun v hv => ?_)
            obtain rfl := hv
            refine g_st (st' := [_]) rfl ?_
            refine g_topi (oC5) ?_
            refine g_topi (h79) ?_
            refine g_iload X dL_come_398 10 rfl rfl ?_
            refine g_icmp_ne X dL_come_400 433 (by decide) rfl (fun h400 => absurd rfl h400) (fun h400 => ?_)
            refine g_aload_n X dL_come_403 rfl 13 rfl rfl ?_
            refine g_bipush (v := (6 : Int32)) X dL_come_404 (by decide) rfl ?_
            refine g_callVRX (w0 := []) (n := 1) (As := [_]) (rest := []) X (c_X6_count l D a fA naA wA td vl L pt fl kd kpA (fqa pqA) (fqa ps) (tlW D pqA ps) mk (min (0 + 1) b) b hWA hNRA _) gL_come_X6_count rfl (by decide +kernel) ⟨Nat.le_of_ble_eq_true rfl, Nat.le_of_ble_eq_true rfl⟩ 20 rfl rfl rfl rfl rfl (Nat.le_of_ble_eq_true rfl) dL_come_406 ⟨Nat.le_of_ble_eq_true rfl, Nat.le_of_ble_eq_true rfl⟩ rfl (fun v hv => ?_)
            obtain rfl := hv
            refine g_st (st' := [_]) rfl ?_
            refine g_topi (oC6) ?_
            refine g_topi (h80) ?_
            refine g_iload X dL_come_409 9 rfl rfl ?_
            refine g_iload X dL_come_411 5 rfl rfl ?_
            refine g_bipush (v := (10 : Int32)) X dL_come_413 (by decide) rfl ?_
            refine g_idiv X dL_come_415 (by decide) rfl ?_
            refine g_topi (y := nI ((10 * i9 + r9) / 10)) (nI_div (a := (10 * i9 + r9)) (b := 10) (by omega) (by omega)) ?_
            refine g_topi ((show nI ((10 * i9 + r9) / 10) = nI i9 from by rw [show (10 * i9 + r9) / 10 = i9 from by omega])) ?_
            refine g_iadd X dL_come_416 rfl ?_
            refine g_icmp_ne X dL_come_417 433 (by decide) rfl (fun h417 => absurd rfl h417) (fun h417 => ?_)
            refine g_aload_n X dL_come_420 rfl 13 rfl rfl ?_
            refine g_iload X dL_come_421 1 rfl rfl ?_
            refine g_callVRX (w0 := []) (n := 1) (As := [_]) (rest := []) X (c_X6_ended l D a fA naA wA td vl L pt fl kd kpA (fqa pqA) (fqa ps) (tlW D pqA ps) mk (min (0 + 1) b) b hWA hNRA _) gL_come_X6_ended rfl (by decide +kernel) ⟨Nat.le_of_ble_eq_true rfl, Nat.le_of_ble_eq_true rfl⟩ 20 rfl rfl rfl rfl rfl (Nat.le_of_ble_eq_true rfl) dL_come_423 ⟨Nat.le_of_ble_eq_true rfl, Nat.le_of_ble_eq_true rfl⟩ rfl (fun v hv => ?_)
            obtain rfl := hv
            refine g_st (st' := [_]) rfl ?_
            refine g_topi (oEn (r := r9) (by omega)) ?_
            refine g_topi ((show fA (83 + r9) = (f (83 + r9) + (1 : Int32)) from by rw [h0]; exact h83)) ?_
            refine g_iload X dL_come_426 4 rfl rfl ?_
            refine g_iconst (v := (1 : Int32)) X dL_come_428 (by decide) rfl ?_
            refine g_iadd X dL_come_429 rfl ?_
            refine g_icmp_eq X dL_come_430 435 (by decide) rfl (fun h430 => ?_) (fun h430 => absurd rfl h430)
            refine g_iload X dL_come_435 1 rfl rfl ?_
            refine g_if_le X dL_come_437 467 (by decide) rfl (fun h437 => ?_) (fun h437 => absurd (nj_nle (a := r9) (b := 0) (by omega) (by omega) h437) (by omega))
            have i437 := nj_le (a := r9) (b := 0) (by omega) (by omega) h437
            refine g_iload X dL_come_467 0 rfl rfl ?_
            refine g_iconst (v := (1 : Int32)) X dL_come_469 (by decide) rfl ?_
            refine g_iadd X dL_come_470 rfl ?_
            refine g_topi (y := nI (0 + 1)) (nI_add 0 1) ?_
            refine g_aload_n X dL_come_471 rfl 13 rfl rfl ?_
            refine g_bipush (v := (9 : Int32)) X dL_come_472 (by decide) rfl ?_
            refine g_callVRX (w0 := []) (n := 1) (As := [_]) (rest := [_]) X (c_X6_count l D a fA naA wA td vl L pt fl kd kpA (fqa pqA) (fqa ps) (tlW D pqA ps) mk (min (0 + 1) b) b hWA hNRA _) gL_come_X6_count rfl (by decide +kernel) ⟨Nat.le_of_ble_eq_true rfl, Nat.le_of_ble_eq_true rfl⟩ 20 rfl rfl rfl rfl rfl (Nat.le_of_ble_eq_true rfl) dL_come_474 ⟨Nat.le_of_ble_eq_true rfl, Nat.le_of_ble_eq_true rfl⟩ rfl (fun v hv => ?_)
            obtain rfl := hv
            refine g_st (st' := [_, _]) rfl ?_
            refine g_topi (oC9.trans hb0A) ?_
            refine g_icmp_le X dL_come_477 484 (by decide) rfl (fun h477 => ?_) (fun h477 => ?_)
            · have i477 := nj_le (a := (0 + 1)) (b := b) (by omega) (by omega) h477
              refine g_iconst (v := (0 : Int32)) X dL_come_484 (by decide) rfl ?_
              refine g_istore X [(17, _), (16, _), (15, _), (14, _), (13, _), (12, _), (11, _), (10, _), (9, _), (8, _), (7, _), (6, _), (5, _), (4, _), (0, _), (1, _), (2, _), (3, _)] dL_come_485 (by decide) rfl rfl ?_
              refine g_iload X dL_come_487 1 rfl rfl ?_
              refine g_iload X dL_come_489 0 rfl rfl ?_
              refine g_isub X dL_come_491 rfl ?_
              refine g_topi (y := nI (0 - 0)) (pk_sub (a := 0) (b := 0) (by omega)) ?_
              refine g_istore X [(18, _), (17, _), (16, _), (15, _), (14, _), (13, _), (12, _), (11, _), (10, _), (9, _), (8, _), (7, _), (6, _), (5, _), (4, _), (0, _), (1, _), (2, _), (3, _)] dL_come_492 (by decide) rfl rfl ?_
              refine g_aload_n X dL_come_494 rfl 15 rfl rfl ?_
              refine g_iconst (v := (2 : Int32)) X dL_come_495 (by decide) rfl ?_
              refine g_callVRX (w0 := []) (n := 1) (As := [_]) (rest := []) X (c_X6_count l D a fA naA wA td vl L pt fl kd kpA (fqa pqA) (fqa ps) (tlW D pqA ps) mk (min (0 + 1) b) b hWA hNRA _) gL_come_X6_count rfl (by decide +kernel) ⟨Nat.le_of_ble_eq_true rfl, Nat.le_of_ble_eq_true rfl⟩ 20 rfl rfl rfl rfl rfl (Nat.le_of_ble_eq_true rfl) dL_come_496 ⟨Nat.le_of_ble_eq_true rfl, Nat.le_of_ble_eq_true rfl⟩ rfl (fun v hv => ?_)
              obtain rfl := hv
              refine g_st (st' := [_]) rfl ?_
              refine g_topi (oC2.trans hn8A) ?_
              refine g_iload X dL_come_499 0 rfl rfl ?_
              refine g_iconst (v := (1 : Int32)) X dL_come_501 (by decide) rfl ?_
              refine g_iadd X dL_come_502 rfl ?_
              refine g_topi (y := nI ((0 - 0) + 1)) (nI_add (0 - 0) 1) ?_
              refine g_icmp_ne X dL_come_503 578 (by decide) rfl (fun h503 => absurd (nj_ne (a := (min (0 + 1) b)) (b := ((0 - 0) + 1)) (by omega) (by omega) h503) (by omega)) (fun h503 => ?_)
              have i503 := nj_eq (a := (min (0 + 1) b)) (b := ((0 - 0) + 1)) (by omega) (by omega) h503
              refine g_aload_n X dL_come_506 rfl 15 rfl rfl ?_
              refine g_bipush (v := (8 : Int32)) X dL_come_507 (by decide) rfl ?_
              refine g_callVRX (w0 := []) (n := 1) (As := [_]) (rest := []) X (c_X6_count l D a fA naA wA td vl L pt fl kd kpA (fqa pqA) (fqa ps) (tlW D pqA ps) mk (min (0 + 1) b) b hWA hNRA _) gL_come_X6_count rfl (by decide +kernel) ⟨Nat.le_of_ble_eq_true rfl, Nat.le_of_ble_eq_true rfl⟩ 20 rfl rfl rfl rfl rfl (Nat.le_of_ble_eq_true rfl) dL_come_509 ⟨Nat.le_of_ble_eq_true rfl, Nat.le_of_ble_eq_true rfl⟩ rfl (fun v hv => ?_)
              obtain rfl := hv
              refine g_st (st' := [_]) rfl ?_
              refine g_topi (oC8) ?_
              refine g_iload X dL_come_512 4 rfl rfl ?_
              refine g_iload X dL_come_514 1 rfl rfl ?_
              refine g_iadd X dL_come_516 rfl ?_
              refine g_icmp_ne X dL_come_517 578 (by decide) rfl (fun h517 => absurd (h82.trans (by rw [show 0 + 1 - b = 0 from by omega]; rfl)) h517) (fun h517 => ?_)
              refine g_aload_n X dL_come_520 rfl 15 rfl rfl ?_
              refine g_iload X dL_come_521 0 rfl rfl ?_
              refine g_iconst (v := (0 : Int32)) X dL_come_523 (by decide) rfl ?_
              refine g_callVRX (w0 := []) (n := 2) (As := [_, _]) (rest := []) X (c_X6_note l D a fA naA wA td vl L pt fl kd kpA (fqa pqA) (fqa ps) (tlW D pqA ps) mk (min (0 + 1) b) b hWA hNRA _ _) gL_come_X6_note rfl (by decide +kernel) ⟨Nat.le_of_ble_eq_true rfl, Nat.le_of_ble_eq_true rfl⟩ 20 rfl rfl rfl rfl rfl (Nat.le_of_ble_eq_true rfl) dL_come_524 ⟨Nat.le_of_ble_eq_true rfl, Nat.le_of_ble_eq_true rfl⟩ rfl (fun v hv => ?_)
              obtain rfl := hv
              refine g_st (st' := [_]) rfl ?_
              refine g_topi (oNt (k := (0 - 0)) 0 eN2A (by omega) hm8A rfl (by decide)) ?_
              refine g_topi ((show noteM fA ((0 - 0)) 0 = nI g from by rw [show (0 - 0) = min (0 + 1) b - 1 from by omega]; exact en0)) ?_
              refine g_iload_n X dL_come_527 rfl 16 rfl rfl ?_
              refine g_icmp_ne X dL_come_528 578 (by decide) rfl (fun h528 => absurd rfl h528) (fun h528 => ?_)
              refine g_aload_n X dL_come_531 rfl 15 rfl rfl ?_
              refine g_iload X dL_come_532 0 rfl rfl ?_
              refine g_iconst (v := (1 : Int32)) X dL_come_534 (by decide) rfl ?_
              refine g_callVRX (w0 := []) (n := 2) (As := [_, _]) (rest := []) X (c_X6_note l D a fA naA wA td vl L pt fl kd kpA (fqa pqA) (fqa ps) (tlW D pqA ps) mk (min (0 + 1) b) b hWA hNRA _ _) gL_come_X6_note rfl (by decide +kernel) ⟨Nat.le_of_ble_eq_true rfl, Nat.le_of_ble_eq_true rfl⟩ 20 rfl rfl rfl rfl rfl (Nat.le_of_ble_eq_true rfl) dL_come_535 ⟨Nat.le_of_ble_eq_true rfl, Nat.le_of_ble_eq_true rfl⟩ rfl (fun v hv => ?_)
              obtain rfl := hv
              refine g_st (st' := [_]) rfl ?_
              refine g_topi (oNt (k := (0 - 0)) 1 eN2A (by omega) hm8A rfl (by decide)) ?_
              refine g_topi ((show noteM fA ((0 - 0)) 1 = nI d from by rw [show (0 - 0) = min (0 + 1) b - 1 from by omega]; exact en1)) ?_
              refine g_iload_n X dL_come_538 rfl 17 rfl rfl ?_
              refine g_icmp_ne X dL_come_539 578 (by decide) rfl (fun h539 => absurd rfl h539) (fun h539 => ?_)
              refine g_aload_n X dL_come_542 rfl 15 rfl rfl ?_
              refine g_iload X dL_come_543 0 rfl rfl ?_
              refine g_iconst (v := (2 : Int32)) X dL_come_545 (by decide) rfl ?_
              refine g_callVRX (w0 := []) (n := 2) (As := [_, _]) (rest := []) X (c_X6_note l D a fA naA wA td vl L pt fl kd kpA (fqa pqA) (fqa ps) (tlW D pqA ps) mk (min (0 + 1) b) b hWA hNRA _ _) gL_come_X6_note rfl (by decide +kernel) ⟨Nat.le_of_ble_eq_true rfl, Nat.le_of_ble_eq_true rfl⟩ 20 rfl rfl rfl rfl rfl (Nat.le_of_ble_eq_true rfl) dL_come_546 ⟨Nat.le_of_ble_eq_true rfl, Nat.le_of_ble_eq_true rfl⟩ rfl (fun v hv => ?_)
              obtain rfl := hv
              refine g_st (st' := [_]) rfl ?_
              refine g_topi (oNt (k := (0 - 0)) 2 eN2A (by omega) hm8A rfl (by decide)) ?_
              refine g_topi ((show noteM fA ((0 - 0)) 2 = nI nd from by rw [show (0 - 0) = min (0 + 1) b - 1 from by omega]; exact en2)) ?_
              refine g_iload_n X dL_come_549 rfl 18 rfl rfl ?_
              refine g_icmp_ne X dL_come_550 578 (by decide) rfl (fun h550 => absurd rfl h550) (fun h550 => ?_)
              refine g_aload_n X dL_come_553 rfl 15 rfl rfl ?_
              refine g_iload X dL_come_554 0 rfl rfl ?_
              refine g_iconst (v := (3 : Int32)) X dL_come_556 (by decide) rfl ?_
              refine g_callVRX (w0 := []) (n := 2) (As := [_, _]) (rest := []) X (c_X6_note l D a fA naA wA td vl L pt fl kd kpA (fqa pqA) (fqa ps) (tlW D pqA ps) mk (min (0 + 1) b) b hWA hNRA _ _) gL_come_X6_note rfl (by decide +kernel) ⟨Nat.le_of_ble_eq_true rfl, Nat.le_of_ble_eq_true rfl⟩ 20 rfl rfl rfl rfl rfl (Nat.le_of_ble_eq_true rfl) dL_come_557 ⟨Nat.le_of_ble_eq_true rfl, Nat.le_of_ble_eq_true rfl⟩ rfl (fun v hv => ?_)
              obtain rfl := hv
              refine g_st (st' := [_]) rfl ?_
              refine g_topi (oNt (k := (0 - 0)) 3 eN2A (by omega) hm8A rfl (by decide)) ?_
              refine g_topi ((show noteM fA ((0 - 0)) 3 = ofM fA t 0 from by rw [show (0 - 0) = min (0 + 1) b - 1 from by omega]; exact ent)) ?_
              refine g_aload_n X dL_come_560 rfl 15 rfl rfl ?_
              refine g_aload_n X dL_come_561 rfl 15 rfl rfl ?_
              refine g_iload_n X dL_come_562 rfl 16 rfl rfl ?_
              refine g_iload_n X dL_come_563 rfl 17 rfl rfl ?_
              refine g_callVRX (w0 := []) (n := 2) (As := [_, _]) (rest := [_, _]) X (c_X6_leads l D a fA naA wA td vl L pt fl kd kpA (fqa pqA) (fqa ps) (tlW D pqA ps) mk (min (0 + 1) b) b hWA hNRA _ _) gL_come_X6_leads rfl (by decide +kernel) ⟨Nat.le_of_ble_eq_true rfl, Nat.le_of_ble_eq_true rfl⟩ 20 rfl rfl rfl rfl rfl (Nat.le_of_ble_eq_true rfl) dL_come_564 ⟨Nat.le_of_ble_eq_true rfl, Nat.le_of_ble_eq_true rfl⟩ rfl (fun v hv => ?_)
              obtain rfl := hv
              refine g_st (st' := [_, _, _]) rfl ?_
              refine g_topi (oLd (g := g) (d := d) (by omega) (by omega)) ?_
              refine g_topi (elt) ?_
              refine g_iconst (v := (0 : Int32)) X dL_come_567 (by decide) rfl ?_
              refine g_callVRX (w0 := []) (n := 2) (As := [_, _]) (rest := [_]) X (c_X6_ofStamp l D a fA naA wA td vl L pt fl kd kpA (fqa pqA) (fqa ps) (tlW D pqA ps) mk (min (0 + 1) b) b hWA hNRA _ _) gL_come_X6_ofStamp rfl (by decide +kernel) ⟨Nat.le_of_ble_eq_true rfl, Nat.le_of_ble_eq_true rfl⟩ 20 rfl rfl rfl rfl rfl (Nat.le_of_ble_eq_true rfl) dL_come_568 ⟨Nat.le_of_ble_eq_true rfl, Nat.le_of_ble_eq_true rfl⟩ rfl (fun v hv => ?_)
              obtain rfl := hv
              refine g_st (st' := [_, _]) rfl ?_
              refine g_topi (oSt (q := t) 0 eN1A (by omega) hm40A rfl (by decide)) ?_
              refine g_icmp_ne X dL_come_571 578 (by decide) rfl (fun h571 => absurd rfl h571) (fun h571 => ?_)
              refine g_iconst (v := (1 : Int32)) X dL_come_574 (by decide) rfl ?_
              refine g_goto X dL_come_575 579 (by decide) ?_
              refine g_retW X hr (by first | rfl | exact b2i_nar _) dL_come_579 hAe ?_
              exact ⟨rfl, fA, naA, wA, td, vl, L, pt, fl, kd, kpA, pqA, ⟨⟨_, _, _, hWA⟩, ⟨_, hNRA, hn8A⟩, hFA, hSA, hL, hch, hkpA, _, hHLA⟩, hADA, rfl⟩
            · have i477 := nj_nle (a := (0 + 1)) (b := b) (by omega) (by omega) h477
              refine g_iconst (v := (1 : Int32)) X dL_come_480 (by decide) rfl ?_
              refine g_goto X dL_come_481 485 (by decide) ?_
              refine g_istore X [(17, _), (16, _), (15, _), (14, _), (13, _), (12, _), (11, _), (10, _), (9, _), (8, _), (7, _), (6, _), (5, _), (4, _), (0, _), (1, _), (2, _), (3, _)] dL_come_485 (by decide) rfl rfl ?_
              refine g_iload X dL_come_487 1 rfl rfl ?_
              refine g_iload X dL_come_489 0 rfl rfl ?_
              refine g_isub X dL_come_491 rfl ?_
              refine g_topi (y := nI (0 - 1)) (pk_sub (a := 0) (b := 1) (by omega)) ?_
              refine g_istore X [(18, _), (17, _), (16, _), (15, _), (14, _), (13, _), (12, _), (11, _), (10, _), (9, _), (8, _), (7, _), (6, _), (5, _), (4, _), (0, _), (1, _), (2, _), (3, _)] dL_come_492 (by decide) rfl rfl ?_
              refine g_aload_n X dL_come_494 rfl 15 rfl rfl ?_
              refine g_iconst (v := (2 : Int32)) X dL_come_495 (by decide) rfl ?_
              refine g_callVRX (w0 := []) (n := 1) (As := [_]) (rest := []) X (c_X6_count l D a fA naA wA td vl L pt fl kd kpA (fqa pqA) (fqa ps) (tlW D pqA ps) mk (min (0 + 1) b) b hWA hNRA _) gL_come_X6_count rfl (by decide +kernel) ⟨Nat.le_of_ble_eq_true rfl, Nat.le_of_ble_eq_true rfl⟩ 20 rfl rfl rfl rfl rfl (Nat.le_of_ble_eq_true rfl) dL_come_496 ⟨Nat.le_of_ble_eq_true rfl, Nat.le_of_ble_eq_true rfl⟩ rfl (fun v hv => ?_)
              obtain rfl := hv
              refine g_st (st' := [_]) rfl ?_
              refine g_topi (oC2.trans hn8A) ?_
              refine g_iload X dL_come_499 0 rfl rfl ?_
              refine g_iconst (v := (1 : Int32)) X dL_come_501 (by decide) rfl ?_
              refine g_iadd X dL_come_502 rfl ?_
              refine g_topi (y := nI ((0 - 1) + 1)) (nI_add (0 - 1) 1) ?_
              refine g_icmp_ne X dL_come_503 578 (by decide) rfl (fun h503 => absurd (nj_ne (a := (min (0 + 1) b)) (b := ((0 - 1) + 1)) (by omega) (by omega) h503) (by omega)) (fun h503 => ?_)
              have i503 := nj_eq (a := (min (0 + 1) b)) (b := ((0 - 1) + 1)) (by omega) (by omega) h503
              refine g_aload_n X dL_come_506 rfl 15 rfl rfl ?_
              refine g_bipush (v := (8 : Int32)) X dL_come_507 (by decide) rfl ?_
              refine g_callVRX (w0 := []) (n := 1) (As := [_]) (rest := []) X (c_X6_count l D a fA naA wA td vl L pt fl kd kpA (fqa pqA) (fqa ps) (tlW D pqA ps) mk (min (0 + 1) b) b hWA hNRA _) gL_come_X6_count rfl (by decide +kernel) ⟨Nat.le_of_ble_eq_true rfl, Nat.le_of_ble_eq_true rfl⟩ 20 rfl rfl rfl rfl rfl (Nat.le_of_ble_eq_true rfl) dL_come_509 ⟨Nat.le_of_ble_eq_true rfl, Nat.le_of_ble_eq_true rfl⟩ rfl (fun v hv => ?_)
              obtain rfl := hv
              refine g_st (st' := [_]) rfl ?_
              refine g_topi (oC8) ?_
              refine g_iload X dL_come_512 4 rfl rfl ?_
              refine g_iload X dL_come_514 1 rfl rfl ?_
              refine g_iadd X dL_come_516 rfl ?_
              refine g_icmp_ne X dL_come_517 578 (by decide) rfl (fun h517 => absurd (h82.trans (by rw [show 0 + 1 - b = 1 from by omega]; rfl)) h517) (fun h517 => ?_)
              refine g_aload_n X dL_come_520 rfl 15 rfl rfl ?_
              refine g_iload X dL_come_521 0 rfl rfl ?_
              refine g_iconst (v := (0 : Int32)) X dL_come_523 (by decide) rfl ?_
              refine g_callVRX (w0 := []) (n := 2) (As := [_, _]) (rest := []) X (c_X6_note l D a fA naA wA td vl L pt fl kd kpA (fqa pqA) (fqa ps) (tlW D pqA ps) mk (min (0 + 1) b) b hWA hNRA _ _) gL_come_X6_note rfl (by decide +kernel) ⟨Nat.le_of_ble_eq_true rfl, Nat.le_of_ble_eq_true rfl⟩ 20 rfl rfl rfl rfl rfl (Nat.le_of_ble_eq_true rfl) dL_come_524 ⟨Nat.le_of_ble_eq_true rfl, Nat.le_of_ble_eq_true rfl⟩ rfl (fun v hv => ?_)
              obtain rfl := hv
              refine g_st (st' := [_]) rfl ?_
              refine g_topi (oNt (k := (0 - 1)) 0 eN2A (by omega) hm8A rfl (by decide)) ?_
              refine g_topi ((show noteM fA ((0 - 1)) 0 = nI g from by rw [show (0 - 1) = min (0 + 1) b - 1 from by omega]; exact en0)) ?_
              refine g_iload_n X dL_come_527 rfl 16 rfl rfl ?_
              refine g_icmp_ne X dL_come_528 578 (by decide) rfl (fun h528 => absurd rfl h528) (fun h528 => ?_)
              refine g_aload_n X dL_come_531 rfl 15 rfl rfl ?_
              refine g_iload X dL_come_532 0 rfl rfl ?_
              refine g_iconst (v := (1 : Int32)) X dL_come_534 (by decide) rfl ?_
              refine g_callVRX (w0 := []) (n := 2) (As := [_, _]) (rest := []) X (c_X6_note l D a fA naA wA td vl L pt fl kd kpA (fqa pqA) (fqa ps) (tlW D pqA ps) mk (min (0 + 1) b) b hWA hNRA _ _) gL_come_X6_note rfl (by decide +kernel) ⟨Nat.le_of_ble_eq_true rfl, Nat.le_of_ble_eq_true rfl⟩ 20 rfl rfl rfl rfl rfl (Nat.le_of_ble_eq_true rfl) dL_come_535 ⟨Nat.le_of_ble_eq_true rfl, Nat.le_of_ble_eq_true rfl⟩ rfl (fun v hv => ?_)
              obtain rfl := hv
              refine g_st (st' := [_]) rfl ?_
              refine g_topi (oNt (k := (0 - 1)) 1 eN2A (by omega) hm8A rfl (by decide)) ?_
              refine g_topi ((show noteM fA ((0 - 1)) 1 = nI d from by rw [show (0 - 1) = min (0 + 1) b - 1 from by omega]; exact en1)) ?_
              refine g_iload_n X dL_come_538 rfl 17 rfl rfl ?_
              refine g_icmp_ne X dL_come_539 578 (by decide) rfl (fun h539 => absurd rfl h539) (fun h539 => ?_)
              refine g_aload_n X dL_come_542 rfl 15 rfl rfl ?_
              refine g_iload X dL_come_543 0 rfl rfl ?_
              refine g_iconst (v := (2 : Int32)) X dL_come_545 (by decide) rfl ?_
              refine g_callVRX (w0 := []) (n := 2) (As := [_, _]) (rest := []) X (c_X6_note l D a fA naA wA td vl L pt fl kd kpA (fqa pqA) (fqa ps) (tlW D pqA ps) mk (min (0 + 1) b) b hWA hNRA _ _) gL_come_X6_note rfl (by decide +kernel) ⟨Nat.le_of_ble_eq_true rfl, Nat.le_of_ble_eq_true rfl⟩ 20 rfl rfl rfl rfl rfl (Nat.le_of_ble_eq_true rfl) dL_come_546 ⟨Nat.le_of_ble_eq_true rfl, Nat.le_of_ble_eq_true rfl⟩ rfl (fun v hv => ?_)
              obtain rfl := hv
              refine g_st (st' := [_]) rfl ?_
              refine g_topi (oNt (k := (0 - 1)) 2 eN2A (by omega) hm8A rfl (by decide)) ?_
              refine g_topi ((show noteM fA ((0 - 1)) 2 = nI nd from by rw [show (0 - 1) = min (0 + 1) b - 1 from by omega]; exact en2)) ?_
              refine g_iload_n X dL_come_549 rfl 18 rfl rfl ?_
              refine g_icmp_ne X dL_come_550 578 (by decide) rfl (fun h550 => absurd rfl h550) (fun h550 => ?_)
              refine g_aload_n X dL_come_553 rfl 15 rfl rfl ?_
              refine g_iload X dL_come_554 0 rfl rfl ?_
              refine g_iconst (v := (3 : Int32)) X dL_come_556 (by decide) rfl ?_
              refine g_callVRX (w0 := []) (n := 2) (As := [_, _]) (rest := []) X (c_X6_note l D a fA naA wA td vl L pt fl kd kpA (fqa pqA) (fqa ps) (tlW D pqA ps) mk (min (0 + 1) b) b hWA hNRA _ _) gL_come_X6_note rfl (by decide +kernel) ⟨Nat.le_of_ble_eq_true rfl, Nat.le_of_ble_eq_true rfl⟩ 20 rfl rfl rfl rfl rfl (Nat.le_of_ble_eq_true rfl) dL_come_557 ⟨Nat.le_of_ble_eq_true rfl, Nat.le_of_ble_eq_true rfl⟩ rfl (fun v hv => ?_)
              obtain rfl := hv
              refine g_st (st' := [_]) rfl ?_
              refine g_topi (oNt (k := (0 - 1)) 3 eN2A (by omega) hm8A rfl (by decide)) ?_
              refine g_topi ((show noteM fA ((0 - 1)) 3 = ofM fA t 0 from by rw [show (0 - 1) = min (0 + 1) b - 1 from by omega]; exact ent)) ?_
              refine g_aload_n X dL_come_560 rfl 15 rfl rfl ?_
              refine g_aload_n X dL_come_561 rfl 15 rfl rfl ?_
              refine g_iload_n X dL_come_562 rfl 16 rfl rfl ?_
              refine g_iload_n X dL_come_563 rfl 17 rfl rfl ?_
              refine g_callVRX (w0 := []) (n := 2) (As := [_, _]) (rest := [_, _]) X (c_X6_leads l D a fA naA wA td vl L pt fl kd kpA (fqa pqA) (fqa ps) (tlW D pqA ps) mk (min (0 + 1) b) b hWA hNRA _ _) gL_come_X6_leads rfl (by decide +kernel) ⟨Nat.le_of_ble_eq_true rfl, Nat.le_of_ble_eq_true rfl⟩ 20 rfl rfl rfl rfl rfl (Nat.le_of_ble_eq_true rfl) dL_come_564 ⟨Nat.le_of_ble_eq_true rfl, Nat.le_of_ble_eq_true rfl⟩ rfl (fun v hv => ?_)
              obtain rfl := hv
              refine g_st (st' := [_, _, _]) rfl ?_
              refine g_topi (oLd (g := g) (d := d) (by omega) (by omega)) ?_
              refine g_topi (elt) ?_
              refine g_iconst (v := (0 : Int32)) X dL_come_567 (by decide) rfl ?_
              refine g_callVRX (w0 := []) (n := 2) (As := [_, _]) (rest := [_]) X (c_X6_ofStamp l D a fA naA wA td vl L pt fl kd kpA (fqa pqA) (fqa ps) (tlW D pqA ps) mk (min (0 + 1) b) b hWA hNRA _ _) gL_come_X6_ofStamp rfl (by decide +kernel) ⟨Nat.le_of_ble_eq_true rfl, Nat.le_of_ble_eq_true rfl⟩ 20 rfl rfl rfl rfl rfl (Nat.le_of_ble_eq_true rfl) dL_come_568 ⟨Nat.le_of_ble_eq_true rfl, Nat.le_of_ble_eq_true rfl⟩ rfl (fun v hv => ?_)
              obtain rfl := hv
              refine g_st (st' := [_, _]) rfl ?_
              refine g_topi (oSt (q := t) 0 eN1A (by omega) hm40A rfl (by decide)) ?_
              refine g_icmp_ne X dL_come_571 578 (by decide) rfl (fun h571 => absurd rfl h571) (fun h571 => ?_)
              refine g_iconst (v := (1 : Int32)) X dL_come_574 (by decide) rfl ?_
              refine g_goto X dL_come_575 579 (by decide) ?_
              refine g_retW X hr (by first | rfl | exact b2i_nar _) dL_come_579 hAe ?_
              exact ⟨rfl, fA, naA, wA, td, vl, L, pt, fl, kd, kpA, pqA, ⟨⟨_, _, _, hWA⟩, ⟨_, hNRA, hn8A⟩, hFA, hSA, hL, hch, hkpA, _, hHLA⟩, hADA, rfl⟩
          · refine g_lve [(11, .int (nI (10 * i9 + r9))), (10, .int (-1)), (9, .int (0)), (8, .int (nI n)), (7, .int (f 80)), (6, .int (f 79)), (5, .int (f 78)), (4, .int (f 77)), (0, .ref (a 19)), (1, .int (nI g)), (2, .int (nI d)), (3, .int (nI nd))] (by rw [hwt]; rfl) ?_
            have hcw : cmW f (nI g) = false := hwp.symm.trans hwt
            refine g_aload_n X dL_come_128 rfl 8 rfl rfl ?_
            refine g_iload X dL_come_129 1 rfl rfl ?_
            refine g_if_lt X dL_come_131 138 (by decide) rfl (fun h131 => ?_) (fun h131 => absurd h131 (by decide))
            refine g_iload X dL_come_138 0 rfl rfl ?_
            refine g_bipush (v := (10 : Int32)) X dL_come_140 (by decide) rfl ?_
            refine g_irem X dL_come_142 (by decide) rfl ?_
            refine g_topi (y := nI ((10 * i9 + r9) % 10)) (nI_rem (a := (10 * i9 + r9)) (b := 10) (by omega) (by omega)) ?_
            refine g_topi ((show nI ((10 * i9 + r9) % 10) = nI r9 from by rw [show (10 * i9 + r9) % 10 = r9 from by omega])) ?_
            refine g_callVRX (w0 := []) (n := 1) (As := [_]) (rest := []) X (c_X6_ended l D a f na w td vl L pt fl kd kp (fqa pq) (fqa ps) (tlW D pq ps) mk n b hW hNR _) gL_come_X6_ended rfl (by decide +kernel) ⟨Nat.le_of_ble_eq_true rfl, Nat.le_of_ble_eq_true rfl⟩ 20 rfl rfl rfl rfl rfl (Nat.le_of_ble_eq_true rfl) dL_come_143 ⟨Nat.le_of_ble_eq_true rfl, Nat.le_of_ble_eq_true rfl⟩ rfl (fun v hv => ?_)
            obtain rfl := hv
            refine g_st (st' := [_]) rfl ?_
            refine g_topi (oEn (r := r9) (by omega)) ?_
            refine g_istore X [(12, _), (11, _), (10, _), (9, _), (8, _), (7, _), (6, _), (5, _), (4, _), (0, _), (1, _), (2, _), (3, _)] dL_come_146 (by decide) rfl rfl ?_
            refine g_aload_n X dL_come_148 rfl 9 rfl rfl ?_
            refine g_bipush (v := (7 : Int32)) X dL_come_149 (by decide) rfl ?_
            refine g_callVRX (w0 := []) (n := 1) (As := [_]) (rest := []) X (c_X6_count l D a f na w td vl L pt fl kd kp (fqa pq) (fqa ps) (tlW D pq ps) mk n b hW hNR _) gL_come_X6_count rfl (by decide +kernel) ⟨Nat.le_of_ble_eq_true rfl, Nat.le_of_ble_eq_true rfl⟩ 20 rfl rfl rfl rfl rfl (Nat.le_of_ble_eq_true rfl) dL_come_151 ⟨Nat.le_of_ble_eq_true rfl, Nat.le_of_ble_eq_true rfl⟩ rfl (fun v hv => ?_)
            obtain rfl := hv
            refine g_st (st' := [_]) rfl ?_
            refine g_topi (oC7) ?_
            refine g_istore X [(13, _), (12, _), (11, _), (10, _), (9, _), (8, _), (7, _), (6, _), (5, _), (4, _), (0, _), (1, _), (2, _), (3, _)] dL_come_154 (by decide) rfl rfl ?_
            refine g_aload_n X dL_come_156 rfl 10 rfl rfl ?_
            refine g_bipush (v := (8 : Int32)) X dL_come_157 (by decide) rfl ?_
            refine g_callVRX (w0 := []) (n := 1) (As := [_]) (rest := []) X (c_X6_count l D a f na w td vl L pt fl kd kp (fqa pq) (fqa ps) (tlW D pq ps) mk n b hW hNR _) gL_come_X6_count rfl (by decide +kernel) ⟨Nat.le_of_ble_eq_true rfl, Nat.le_of_ble_eq_true rfl⟩ 20 rfl rfl rfl rfl rfl (Nat.le_of_ble_eq_true rfl) dL_come_159 ⟨Nat.le_of_ble_eq_true rfl, Nat.le_of_ble_eq_true rfl⟩ rfl (fun v hv => ?_)
            obtain rfl := hv
            refine g_st (st' := [_]) rfl ?_
            refine g_topi (oC8) ?_
            refine g_istore X [(14, _), (13, _), (12, _), (11, _), (10, _), (9, _), (8, _), (7, _), (6, _), (5, _), (4, _), (0, _), (1, _), (2, _), (3, _)] dL_come_162 (by decide) rfl rfl ?_
            refine g_aload_n X dL_come_164 rfl 11 rfl rfl ?_
            refine g_iload_n X dL_come_165 rfl 12 rfl rfl ?_
            refine g_iload_n X dL_come_166 rfl 13 rfl rfl ?_
            refine g_iload_n X dL_come_167 rfl 14 rfl rfl ?_
            refine g_iconst (v := (0 : Int32)) X dL_come_168 (by decide) rfl ?_
            refine g_callVXs (n := 4) (As := [_, _, _, _]) (rest := []) X hAg rfl (c_X6_walk l D a f na w td vl L pt fl kd kp (fqa pq) (fqa ps) (tlW D pq ps) mk n b hW hNR _ _ _ _) gL_come_X6_walk rfl (by decide +kernel) ⟨Nat.le_of_ble_eq_true rfl, Nat.le_of_ble_eq_true rfl⟩ 20 rfl rfl rfl rfl (Nat.le_of_ble_eq_true rfl) dL_come_169 ⟨Nat.le_of_ble_eq_true rfl, Nat.le_of_ble_eq_true rfl⟩ rfl (fun v w9 hv => ?_)
            obtain ⟨rfl, w1, rfl⟩ := hv
            refine ⟨AD.rf rfl, ?_⟩
            refine g_st (st' := [_]) rfl ?_
            refine g_topi (oWk0 (g := g) (d := d) (e := nd) hg6 hd10 he12) ?_
            refine g_topi (er9) ?_
            refine g_iload X dL_come_172 3 rfl rfl ?_
            refine g_bipush (v := (10 : Int32)) X dL_come_174 (by decide) rfl ?_
            refine g_irem X dL_come_176 (by decide) rfl ?_
            refine g_topi (y := nI ((10 * i9 + r9) % 10)) (nI_rem (a := (10 * i9 + r9)) (b := 10) (by omega) (by omega)) ?_
            refine g_topi ((show nI ((10 * i9 + r9) % 10) = nI r9 from by rw [show (10 * i9 + r9) % 10 = r9 from by omega])) ?_
            refine g_icmp_ne X dL_come_177 196 (by decide) rfl (fun h177 => absurd rfl h177) (fun h177 => ?_)
            refine g_aload_n X dL_come_180 rfl 11 rfl rfl ?_
            refine g_iload_n X dL_come_181 rfl 12 rfl rfl ?_
            refine g_iload_n X dL_come_182 rfl 13 rfl rfl ?_
            refine g_iload_n X dL_come_183 rfl 14 rfl rfl ?_
            refine g_iconst (v := (1 : Int32)) X dL_come_184 (by decide) rfl ?_
            refine g_callVXs (n := 4) (As := [_, _, _, _]) (rest := []) X hAg rfl (c_X6_walk l D a f na w1 td vl L pt fl kd kp (fqa pq) (fqa ps) (tlW D pq ps) mk n b hW hNR _ _ _ _) gL_come_X6_walk rfl (by decide +kernel) ⟨Nat.le_of_ble_eq_true rfl, Nat.le_of_ble_eq_true rfl⟩ 20 rfl rfl rfl rfl (Nat.le_of_ble_eq_true rfl) dL_come_185 ⟨Nat.le_of_ble_eq_true rfl, Nat.le_of_ble_eq_true rfl⟩ rfl (fun v w9 hv => ?_)
            obtain ⟨rfl, w2, rfl⟩ := hv
            refine ⟨AD.rf rfl, ?_⟩
            refine g_st (st' := [_]) rfl ?_
            refine g_topi (oWk1 (g := g) (d := d) (e := nd) hg6 hd10 he12) ?_
            refine g_topi ((by rw [ei9])) ?_
            refine g_iload X dL_come_188 3 rfl rfl ?_
            refine g_bipush (v := (10 : Int32)) X dL_come_190 (by decide) rfl ?_
            refine g_idiv X dL_come_192 (by decide) rfl ?_
            refine g_topi (y := nI ((10 * i9 + r9) / 10)) (nI_div (a := (10 * i9 + r9)) (b := 10) (by omega) (by omega)) ?_
            refine g_topi ((show nI ((10 * i9 + r9) / 10) = nI i9 from by rw [show (10 * i9 + r9) / 10 = i9 from by omega])) ?_
            refine g_icmp_eq X dL_come_193 198 (by decide) rfl (fun h193 => ?_) (fun h193 => absurd rfl h193)
            refine g_aload_n X dL_come_198 rfl 11 rfl rfl ?_
            refine g_iload_n X dL_come_199 rfl 12 rfl rfl ?_
            refine g_iload_n X dL_come_200 rfl 13 rfl rfl ?_
            refine g_iload_n X dL_come_201 rfl 14 rfl rfl ?_
            refine g_callVXs (n := 3) (As := [_, _, _]) (rest := []) X hAg rfl (c_X6_come l D a f na w2 td vl L pt fl kd kp pq ps mk n b hW hNR hF hkp hHL.hq _ _ _) gL_come_X6_come rfl (by decide +kernel) ⟨Nat.le_of_ble_eq_true rfl, Nat.le_of_ble_eq_true rfl⟩ 20 rfl rfl rfl rfl (Nat.le_of_ble_eq_true rfl) dL_come_202 ⟨Nat.le_of_ble_eq_true rfl, Nat.le_of_ble_eq_true rfl⟩ rfl (fun v w9 hv => ?_)
            obtain ⟨rfl, fA, naA, wA, kpA, pqA, efA, hNA, hAA, hkpA, hHLA, ekA, rfl⟩ := ch_out hv hkp hHL hF ⟨_, hNR, hn8⟩
            have hADA := hAA
            refine ⟨hAA, ?_⟩
            refine g_st (st' := [_]) rfl ?_
            obtain ⟨hrx, hWA, hSA, h77, h78, h79, h80, h81, h82, h83, ⟨t, ht, elt, ent⟩, en0, en1, en2⟩ := come_C hW hS hg6 hd10 he12 hno (er9.trans (by rw [h0]; rfl)) ei9 efA
            rw [hcw] at hWA h81 h82 ent en0 en1 en2
            rw [if_neg Bool.false_ne_true] at hWA h82 ent en0 en1 en2
            rw [if_neg Bool.false_ne_true] at h81
            refine g_topi ((hrx.trans (show (0 : Int32) = nI r9 from by rw [h0]; rfl))) ?_
            have hNRA := hNA.to hWA
            have hFA : FB fA := by rw [efA]; exact come_fb ⟨mk, n, b, hW⟩ hF
            obtain ⟨hmkA, hm40A, hn8A, hb0A, hb0A1, hb0A8, hn8Ab, hstA, hnoA, howA, hdoA, hb0Aa, hb0Ac, hb0Ad, hb0Az⟩ := id hWA
            have hm8A : (min (n + 1) b) ≤ 8 := by omega
            obtain ⟨eN1A, eN2A, -⟩ := hWA.N
            refine g_istore X [(15, _), (14, _), (13, _), (12, _), (11, _), (10, _), (9, _), (8, _), (7, _), (6, _), (5, _), (4, _), (0, _), (1, _), (2, _), (3, _)] dL_come_205 (by decide) rfl rfl ?_
            refine g_aload_n X dL_come_207 rfl 12 rfl rfl ?_
            refine g_iconst (v := (3 : Int32)) X dL_come_208 (by decide) rfl ?_
            refine g_callVRX (w0 := []) (n := 1) (As := [_]) (rest := []) X (c_X6_count l D a fA naA wA td vl L pt fl kd kpA (fqa pqA) (fqa ps) (tlW D pqA ps) mk (min (n + 1) b) b hWA hNRA _) gL_come_X6_count rfl (by decide +kernel) ⟨Nat.le_of_ble_eq_true rfl, Nat.le_of_ble_eq_true rfl⟩ 20 rfl rfl rfl rfl rfl (Nat.le_of_ble_eq_true rfl) dL_come_209 ⟨Nat.le_of_ble_eq_true rfl, Nat.le_of_ble_eq_true rfl⟩ rfl (fun v hv => ?_)
            obtain rfl := hv
            refine g_st (st' := [_]) rfl ?_
            refine g_topi (oC3) ?_
            refine g_topi (h77) ?_
            refine g_iload_n X dL_come_212 rfl 13 rfl rfl ?_
            refine g_icmp_ne X dL_come_213 251 (by decide) rfl (fun h213 => absurd rfl h213) (fun h213 => ?_)
            refine g_aload_n X dL_come_216 rfl 12 rfl rfl ?_
            refine g_iconst (v := (4 : Int32)) X dL_come_217 (by decide) rfl ?_
            refine g_callVRX (w0 := []) (n := 1) (As := [_]) (rest := []) X (c_X6_count l D a fA naA wA td vl L pt fl kd kpA (fqa pqA) (fqa ps) (tlW D pqA ps) mk (min (n + 1) b) b hWA hNRA _) gL_come_X6_count rfl (by decide +kernel) ⟨Nat.le_of_ble_eq_true rfl, Nat.le_of_ble_eq_true rfl⟩ 20 rfl rfl rfl rfl rfl (Nat.le_of_ble_eq_true rfl) dL_come_218 ⟨Nat.le_of_ble_eq_true rfl, Nat.le_of_ble_eq_true rfl⟩ rfl (fun v hv => ?_)
            obtain rfl := hv
            refine g_st (st' := [_]) rfl ?_
            refine g_topi (oC4) ?_
            refine g_topi (h78) ?_
            refine g_iload X dL_come_221 10 rfl rfl ?_
            refine g_iconst (v := (1 : Int32)) X dL_come_223 (by decide) rfl ?_
            refine g_iadd X dL_come_224 rfl ?_
            refine g_icmp_ne X dL_come_225 251 (by decide) rfl (fun h225 => absurd rfl h225) (fun h225 => ?_)
            refine g_aload_n X dL_come_228 rfl 12 rfl rfl ?_
            refine g_bipush (v := (7 : Int32)) X dL_come_229 (by decide) rfl ?_
            refine g_callVRX (w0 := []) (n := 1) (As := [_]) (rest := []) X (c_X6_count l D a fA naA wA td vl L pt fl kd kpA (fqa pqA) (fqa ps) (tlW D pqA ps) mk (min (n + 1) b) b hWA hNRA _) gL_come_X6_count rfl (by decide +kernel) ⟨Nat.le_of_ble_eq_true rfl, Nat.le_of_ble_eq_true rfl⟩ 20 rfl rfl rfl rfl rfl (Nat.le_of_ble_eq_true rfl) dL_come_231 ⟨Nat.le_of_ble_eq_true rfl, Nat.le_of_ble_eq_true rfl⟩ rfl (fun v hv => ?_)
            obtain rfl := hv
            refine g_st (st' := [_]) rfl ?_
            refine g_topi (oC7) ?_
            refine g_iload X dL_come_234 2 rfl rfl ?_
            refine g_iload X dL_come_236 6 rfl rfl ?_
            refine g_if_eq X dL_come_238 246 (by decide) rfl (fun h238 => ?_) (fun h238 => absurd h238 (by decide))
            refine g_iconst (v := (0 : Int32)) X dL_come_246 (by decide) rfl ?_
            refine g_iadd X dL_come_247 rfl ?_
            refine g_icmp_eq X dL_come_248 253 (by decide) rfl (fun h248 => ?_) (fun h248 => absurd (h81.trans (by first | rfl | (rw [Int32.add_zero]; done))) h248)
            refine g_iload X dL_come_253 6 rfl rfl ?_
            refine g_if_eq X dL_come_255 262 (by decide) rfl (fun h255 => ?_) (fun h255 => absurd h255 (by decide))
            refine g_iload X dL_come_262 7 rfl rfl ?_
            refine g_istore X [(16, _), (15, _), (14, _), (13, _), (12, _), (11, _), (10, _), (9, _), (8, _), (7, _), (6, _), (5, _), (4, _), (0, _), (1, _), (2, _), (3, _)] dL_come_264 (by decide) rfl rfl ?_
            refine g_iload X dL_come_266 6 rfl rfl ?_
            refine g_if_lt X dL_come_268 383 (by decide) rfl (fun h268 => ?_) (fun h268 => absurd h268 (by decide))
            refine g_iload X dL_come_383 1 rfl rfl ?_
            refine g_iload X dL_come_385 5 rfl rfl ?_
            refine g_bipush (v := (10 : Int32)) X dL_come_387 (by decide) rfl ?_
            refine g_irem X dL_come_389 (by decide) rfl ?_
            refine g_topi (y := nI ((10 * i9 + r9) % 10)) (nI_rem (a := (10 * i9 + r9)) (b := 10) (by omega) (by omega)) ?_
            refine g_topi ((show nI ((10 * i9 + r9) % 10) = nI r9 from by rw [show (10 * i9 + r9) % 10 = r9 from by omega])) ?_
            refine g_icmp_ne X dL_come_390 433 (by decide) rfl (fun h390 => absurd rfl h390) (fun h390 => ?_)
            refine g_aload_n X dL_come_393 rfl 13 rfl rfl ?_
            refine g_iconst (v := (5 : Int32)) X dL_come_394 (by decide) rfl ?_
            refine g_callVRX (w0 := []) (n := 1) (As := [_]) (rest := []) X (c_X6_count l D a fA naA wA td vl L pt fl kd kpA (fqa pqA) (fqa ps) (tlW D pqA ps) mk (min (n + 1) b) b hWA hNRA _) gL_come_X6_count rfl (by decide +kernel) ⟨Nat.le_of_ble_eq_true rfl, Nat.le_of_ble_eq_true rfl⟩ 20 rfl rfl rfl rfl rfl (Nat.le_of_ble_eq_true rfl) dL_come_395 ⟨Nat.le_of_ble_eq_true rfl, Nat.le_of_ble_eq_true rfl⟩ rfl (fun v hv => ?_)
            obtain rfl := hv
            refine g_st (st' := [_]) rfl ?_
            refine g_topi (oC5) ?_
            refine g_topi (h79) ?_
            refine g_iload X dL_come_398 10 rfl rfl ?_
            refine g_icmp_ne X dL_come_400 433 (by decide) rfl (fun h400 => absurd rfl h400) (fun h400 => ?_)
            refine g_aload_n X dL_come_403 rfl 13 rfl rfl ?_
            refine g_bipush (v := (6 : Int32)) X dL_come_404 (by decide) rfl ?_
            refine g_callVRX (w0 := []) (n := 1) (As := [_]) (rest := []) X (c_X6_count l D a fA naA wA td vl L pt fl kd kpA (fqa pqA) (fqa ps) (tlW D pqA ps) mk (min (n + 1) b) b hWA hNRA _) gL_come_X6_count rfl (by decide +kernel) ⟨Nat.le_of_ble_eq_true rfl, Nat.le_of_ble_eq_true rfl⟩ 20 rfl rfl rfl rfl rfl (Nat.le_of_ble_eq_true rfl) dL_come_406 ⟨Nat.le_of_ble_eq_true rfl, Nat.le_of_ble_eq_true rfl⟩ rfl (fun v hv => ?_)
            obtain rfl := hv
            refine g_st (st' := [_]) rfl ?_
            refine g_topi (oC6) ?_
            refine g_topi (h80) ?_
            refine g_iload X dL_come_409 9 rfl rfl ?_
            refine g_iload X dL_come_411 5 rfl rfl ?_
            refine g_bipush (v := (10 : Int32)) X dL_come_413 (by decide) rfl ?_
            refine g_idiv X dL_come_415 (by decide) rfl ?_
            refine g_topi (y := nI ((10 * i9 + r9) / 10)) (nI_div (a := (10 * i9 + r9)) (b := 10) (by omega) (by omega)) ?_
            refine g_topi ((show nI ((10 * i9 + r9) / 10) = nI i9 from by rw [show (10 * i9 + r9) / 10 = i9 from by omega])) ?_
            refine g_iadd X dL_come_416 rfl ?_
            refine g_icmp_ne X dL_come_417 433 (by decide) rfl (fun h417 => absurd rfl h417) (fun h417 => ?_)
            refine g_aload_n X dL_come_420 rfl 13 rfl rfl ?_
            refine g_iload X dL_come_421 1 rfl rfl ?_
            refine g_callVRX (w0 := []) (n := 1) (As := [_]) (rest := []) X (c_X6_ended l D a fA naA wA td vl L pt fl kd kpA (fqa pqA) (fqa ps) (tlW D pqA ps) mk (min (n + 1) b) b hWA hNRA _) gL_come_X6_ended rfl (by decide +kernel) ⟨Nat.le_of_ble_eq_true rfl, Nat.le_of_ble_eq_true rfl⟩ 20 rfl rfl rfl rfl rfl (Nat.le_of_ble_eq_true rfl) dL_come_423 ⟨Nat.le_of_ble_eq_true rfl, Nat.le_of_ble_eq_true rfl⟩ rfl (fun v hv => ?_)
            obtain rfl := hv
            refine g_st (st' := [_]) rfl ?_
            refine g_topi (oEn (r := r9) (by omega)) ?_
            refine g_topi ((show fA (83 + r9) = (f (83 + r9) + (1 : Int32)) from by rw [h0]; exact h83)) ?_
            refine g_iload X dL_come_426 4 rfl rfl ?_
            refine g_iconst (v := (1 : Int32)) X dL_come_428 (by decide) rfl ?_
            refine g_iadd X dL_come_429 rfl ?_
            refine g_icmp_eq X dL_come_430 435 (by decide) rfl (fun h430 => ?_) (fun h430 => absurd rfl h430)
            refine g_iload X dL_come_435 1 rfl rfl ?_
            refine g_if_le X dL_come_437 467 (by decide) rfl (fun h437 => ?_) (fun h437 => absurd (nj_nle (a := r9) (b := 0) (by omega) (by omega) h437) (by omega))
            have i437 := nj_le (a := r9) (b := 0) (by omega) (by omega) h437
            refine g_iload X dL_come_467 0 rfl rfl ?_
            refine g_iconst (v := (1 : Int32)) X dL_come_469 (by decide) rfl ?_
            refine g_iadd X dL_come_470 rfl ?_
            refine g_topi (y := nI (n + 1)) (nI_add n 1) ?_
            refine g_aload_n X dL_come_471 rfl 13 rfl rfl ?_
            refine g_bipush (v := (9 : Int32)) X dL_come_472 (by decide) rfl ?_
            refine g_callVRX (w0 := []) (n := 1) (As := [_]) (rest := [_]) X (c_X6_count l D a fA naA wA td vl L pt fl kd kpA (fqa pqA) (fqa ps) (tlW D pqA ps) mk (min (n + 1) b) b hWA hNRA _) gL_come_X6_count rfl (by decide +kernel) ⟨Nat.le_of_ble_eq_true rfl, Nat.le_of_ble_eq_true rfl⟩ 20 rfl rfl rfl rfl rfl (Nat.le_of_ble_eq_true rfl) dL_come_474 ⟨Nat.le_of_ble_eq_true rfl, Nat.le_of_ble_eq_true rfl⟩ rfl (fun v hv => ?_)
            obtain rfl := hv
            refine g_st (st' := [_, _]) rfl ?_
            refine g_topi (oC9.trans hb0A) ?_
            refine g_icmp_le X dL_come_477 484 (by decide) rfl (fun h477 => ?_) (fun h477 => ?_)
            · have i477 := nj_le (a := (n + 1)) (b := b) (by omega) (by omega) h477
              refine g_iconst (v := (0 : Int32)) X dL_come_484 (by decide) rfl ?_
              refine g_istore X [(17, _), (16, _), (15, _), (14, _), (13, _), (12, _), (11, _), (10, _), (9, _), (8, _), (7, _), (6, _), (5, _), (4, _), (0, _), (1, _), (2, _), (3, _)] dL_come_485 (by decide) rfl rfl ?_
              refine g_iload X dL_come_487 1 rfl rfl ?_
              refine g_iload X dL_come_489 0 rfl rfl ?_
              refine g_isub X dL_come_491 rfl ?_
              refine g_topi (y := nI (n - 0)) (pk_sub (a := n) (b := 0) (by omega)) ?_
              refine g_istore X [(18, _), (17, _), (16, _), (15, _), (14, _), (13, _), (12, _), (11, _), (10, _), (9, _), (8, _), (7, _), (6, _), (5, _), (4, _), (0, _), (1, _), (2, _), (3, _)] dL_come_492 (by decide) rfl rfl ?_
              refine g_aload_n X dL_come_494 rfl 15 rfl rfl ?_
              refine g_iconst (v := (2 : Int32)) X dL_come_495 (by decide) rfl ?_
              refine g_callVRX (w0 := []) (n := 1) (As := [_]) (rest := []) X (c_X6_count l D a fA naA wA td vl L pt fl kd kpA (fqa pqA) (fqa ps) (tlW D pqA ps) mk (min (n + 1) b) b hWA hNRA _) gL_come_X6_count rfl (by decide +kernel) ⟨Nat.le_of_ble_eq_true rfl, Nat.le_of_ble_eq_true rfl⟩ 20 rfl rfl rfl rfl rfl (Nat.le_of_ble_eq_true rfl) dL_come_496 ⟨Nat.le_of_ble_eq_true rfl, Nat.le_of_ble_eq_true rfl⟩ rfl (fun v hv => ?_)
              obtain rfl := hv
              refine g_st (st' := [_]) rfl ?_
              refine g_topi (oC2.trans hn8A) ?_
              refine g_iload X dL_come_499 0 rfl rfl ?_
              refine g_iconst (v := (1 : Int32)) X dL_come_501 (by decide) rfl ?_
              refine g_iadd X dL_come_502 rfl ?_
              refine g_topi (y := nI ((n - 0) + 1)) (nI_add (n - 0) 1) ?_
              refine g_icmp_ne X dL_come_503 578 (by decide) rfl (fun h503 => absurd (nj_ne (a := (min (n + 1) b)) (b := ((n - 0) + 1)) (by omega) (by omega) h503) (by omega)) (fun h503 => ?_)
              have i503 := nj_eq (a := (min (n + 1) b)) (b := ((n - 0) + 1)) (by omega) (by omega) h503
              refine g_aload_n X dL_come_506 rfl 15 rfl rfl ?_
              refine g_bipush (v := (8 : Int32)) X dL_come_507 (by decide) rfl ?_
              refine g_callVRX (w0 := []) (n := 1) (As := [_]) (rest := []) X (c_X6_count l D a fA naA wA td vl L pt fl kd kpA (fqa pqA) (fqa ps) (tlW D pqA ps) mk (min (n + 1) b) b hWA hNRA _) gL_come_X6_count rfl (by decide +kernel) ⟨Nat.le_of_ble_eq_true rfl, Nat.le_of_ble_eq_true rfl⟩ 20 rfl rfl rfl rfl rfl (Nat.le_of_ble_eq_true rfl) dL_come_509 ⟨Nat.le_of_ble_eq_true rfl, Nat.le_of_ble_eq_true rfl⟩ rfl (fun v hv => ?_)
              obtain rfl := hv
              refine g_st (st' := [_]) rfl ?_
              refine g_topi (oC8) ?_
              refine g_iload X dL_come_512 4 rfl rfl ?_
              refine g_iload X dL_come_514 1 rfl rfl ?_
              refine g_iadd X dL_come_516 rfl ?_
              refine g_icmp_ne X dL_come_517 578 (by decide) rfl (fun h517 => absurd (h82.trans (by rw [show n + 1 - b = 0 from by omega]; rfl)) h517) (fun h517 => ?_)
              refine g_aload_n X dL_come_520 rfl 15 rfl rfl ?_
              refine g_iload X dL_come_521 0 rfl rfl ?_
              refine g_iconst (v := (0 : Int32)) X dL_come_523 (by decide) rfl ?_
              refine g_callVRX (w0 := []) (n := 2) (As := [_, _]) (rest := []) X (c_X6_note l D a fA naA wA td vl L pt fl kd kpA (fqa pqA) (fqa ps) (tlW D pqA ps) mk (min (n + 1) b) b hWA hNRA _ _) gL_come_X6_note rfl (by decide +kernel) ⟨Nat.le_of_ble_eq_true rfl, Nat.le_of_ble_eq_true rfl⟩ 20 rfl rfl rfl rfl rfl (Nat.le_of_ble_eq_true rfl) dL_come_524 ⟨Nat.le_of_ble_eq_true rfl, Nat.le_of_ble_eq_true rfl⟩ rfl (fun v hv => ?_)
              obtain rfl := hv
              refine g_st (st' := [_]) rfl ?_
              refine g_topi (oNt (k := (n - 0)) 0 eN2A (by omega) hm8A rfl (by decide)) ?_
              refine g_topi ((show noteM fA ((n - 0)) 0 = nI g from by rw [show (n - 0) = min (n + 1) b - 1 from by omega]; exact en0)) ?_
              refine g_iload_n X dL_come_527 rfl 16 rfl rfl ?_
              refine g_icmp_ne X dL_come_528 578 (by decide) rfl (fun h528 => absurd rfl h528) (fun h528 => ?_)
              refine g_aload_n X dL_come_531 rfl 15 rfl rfl ?_
              refine g_iload X dL_come_532 0 rfl rfl ?_
              refine g_iconst (v := (1 : Int32)) X dL_come_534 (by decide) rfl ?_
              refine g_callVRX (w0 := []) (n := 2) (As := [_, _]) (rest := []) X (c_X6_note l D a fA naA wA td vl L pt fl kd kpA (fqa pqA) (fqa ps) (tlW D pqA ps) mk (min (n + 1) b) b hWA hNRA _ _) gL_come_X6_note rfl (by decide +kernel) ⟨Nat.le_of_ble_eq_true rfl, Nat.le_of_ble_eq_true rfl⟩ 20 rfl rfl rfl rfl rfl (Nat.le_of_ble_eq_true rfl) dL_come_535 ⟨Nat.le_of_ble_eq_true rfl, Nat.le_of_ble_eq_true rfl⟩ rfl (fun v hv => ?_)
              obtain rfl := hv
              refine g_st (st' := [_]) rfl ?_
              refine g_topi (oNt (k := (n - 0)) 1 eN2A (by omega) hm8A rfl (by decide)) ?_
              refine g_topi ((show noteM fA ((n - 0)) 1 = nI d from by rw [show (n - 0) = min (n + 1) b - 1 from by omega]; exact en1)) ?_
              refine g_iload_n X dL_come_538 rfl 17 rfl rfl ?_
              refine g_icmp_ne X dL_come_539 578 (by decide) rfl (fun h539 => absurd rfl h539) (fun h539 => ?_)
              refine g_aload_n X dL_come_542 rfl 15 rfl rfl ?_
              refine g_iload X dL_come_543 0 rfl rfl ?_
              refine g_iconst (v := (2 : Int32)) X dL_come_545 (by decide) rfl ?_
              refine g_callVRX (w0 := []) (n := 2) (As := [_, _]) (rest := []) X (c_X6_note l D a fA naA wA td vl L pt fl kd kpA (fqa pqA) (fqa ps) (tlW D pqA ps) mk (min (n + 1) b) b hWA hNRA _ _) gL_come_X6_note rfl (by decide +kernel) ⟨Nat.le_of_ble_eq_true rfl, Nat.le_of_ble_eq_true rfl⟩ 20 rfl rfl rfl rfl rfl (Nat.le_of_ble_eq_true rfl) dL_come_546 ⟨Nat.le_of_ble_eq_true rfl, Nat.le_of_ble_eq_true rfl⟩ rfl (fun v hv => ?_)
              obtain rfl := hv
              refine g_st (st' := [_]) rfl ?_
              refine g_topi (oNt (k := (n - 0)) 2 eN2A (by omega) hm8A rfl (by decide)) ?_
              refine g_topi ((show noteM fA ((n - 0)) 2 = nI nd from by rw [show (n - 0) = min (n + 1) b - 1 from by omega]; exact en2)) ?_
              refine g_iload_n X dL_come_549 rfl 18 rfl rfl ?_
              refine g_icmp_ne X dL_come_550 578 (by decide) rfl (fun h550 => absurd rfl h550) (fun h550 => ?_)
              refine g_aload_n X dL_come_553 rfl 15 rfl rfl ?_
              refine g_iload X dL_come_554 0 rfl rfl ?_
              refine g_iconst (v := (3 : Int32)) X dL_come_556 (by decide) rfl ?_
              refine g_callVRX (w0 := []) (n := 2) (As := [_, _]) (rest := []) X (c_X6_note l D a fA naA wA td vl L pt fl kd kpA (fqa pqA) (fqa ps) (tlW D pqA ps) mk (min (n + 1) b) b hWA hNRA _ _) gL_come_X6_note rfl (by decide +kernel) ⟨Nat.le_of_ble_eq_true rfl, Nat.le_of_ble_eq_true rfl⟩ 20 rfl rfl rfl rfl rfl (Nat.le_of_ble_eq_true rfl) dL_come_557 ⟨Nat.le_of_ble_eq_true rfl, Nat.le_of_ble_eq_true rfl⟩ rfl (fun v hv => ?_)
              obtain rfl := hv
              refine g_st (st' := [_]) rfl ?_
              refine g_topi (oNt (k := (n - 0)) 3 eN2A (by omega) hm8A rfl (by decide)) ?_
              refine g_topi ((show noteM fA ((n - 0)) 3 = ofM fA t 0 from by rw [show (n - 0) = min (n + 1) b - 1 from by omega]; exact ent)) ?_
              refine g_aload_n X dL_come_560 rfl 15 rfl rfl ?_
              refine g_aload_n X dL_come_561 rfl 15 rfl rfl ?_
              refine g_iload_n X dL_come_562 rfl 16 rfl rfl ?_
              refine g_iload_n X dL_come_563 rfl 17 rfl rfl ?_
              refine g_callVRX (w0 := []) (n := 2) (As := [_, _]) (rest := [_, _]) X (c_X6_leads l D a fA naA wA td vl L pt fl kd kpA (fqa pqA) (fqa ps) (tlW D pqA ps) mk (min (n + 1) b) b hWA hNRA _ _) gL_come_X6_leads rfl (by decide +kernel) ⟨Nat.le_of_ble_eq_true rfl, Nat.le_of_ble_eq_true rfl⟩ 20 rfl rfl rfl rfl rfl (Nat.le_of_ble_eq_true rfl) dL_come_564 ⟨Nat.le_of_ble_eq_true rfl, Nat.le_of_ble_eq_true rfl⟩ rfl (fun v hv => ?_)
              obtain rfl := hv
              refine g_st (st' := [_, _, _]) rfl ?_
              refine g_topi (oLd (g := g) (d := d) (by omega) (by omega)) ?_
              refine g_topi (elt) ?_
              refine g_iconst (v := (0 : Int32)) X dL_come_567 (by decide) rfl ?_
              refine g_callVRX (w0 := []) (n := 2) (As := [_, _]) (rest := [_]) X (c_X6_ofStamp l D a fA naA wA td vl L pt fl kd kpA (fqa pqA) (fqa ps) (tlW D pqA ps) mk (min (n + 1) b) b hWA hNRA _ _) gL_come_X6_ofStamp rfl (by decide +kernel) ⟨Nat.le_of_ble_eq_true rfl, Nat.le_of_ble_eq_true rfl⟩ 20 rfl rfl rfl rfl rfl (Nat.le_of_ble_eq_true rfl) dL_come_568 ⟨Nat.le_of_ble_eq_true rfl, Nat.le_of_ble_eq_true rfl⟩ rfl (fun v hv => ?_)
              obtain rfl := hv
              refine g_st (st' := [_, _]) rfl ?_
              refine g_topi (oSt (q := t) 0 eN1A (by omega) hm40A rfl (by decide)) ?_
              refine g_icmp_ne X dL_come_571 578 (by decide) rfl (fun h571 => absurd rfl h571) (fun h571 => ?_)
              refine g_iconst (v := (1 : Int32)) X dL_come_574 (by decide) rfl ?_
              refine g_goto X dL_come_575 579 (by decide) ?_
              refine g_retW X hr (by first | rfl | exact b2i_nar _) dL_come_579 hAe ?_
              exact ⟨rfl, fA, naA, wA, td, vl, L, pt, fl, kd, kpA, pqA, ⟨⟨_, _, _, hWA⟩, ⟨_, hNRA, hn8A⟩, hFA, hSA, hL, hch, hkpA, _, hHLA⟩, hADA, rfl⟩
            · have i477 := nj_nle (a := (n + 1)) (b := b) (by omega) (by omega) h477
              refine g_iconst (v := (1 : Int32)) X dL_come_480 (by decide) rfl ?_
              refine g_goto X dL_come_481 485 (by decide) ?_
              refine g_istore X [(17, _), (16, _), (15, _), (14, _), (13, _), (12, _), (11, _), (10, _), (9, _), (8, _), (7, _), (6, _), (5, _), (4, _), (0, _), (1, _), (2, _), (3, _)] dL_come_485 (by decide) rfl rfl ?_
              refine g_iload X dL_come_487 1 rfl rfl ?_
              refine g_iload X dL_come_489 0 rfl rfl ?_
              refine g_isub X dL_come_491 rfl ?_
              refine g_topi (y := nI (n - 1)) (pk_sub (a := n) (b := 1) (by omega)) ?_
              refine g_istore X [(18, _), (17, _), (16, _), (15, _), (14, _), (13, _), (12, _), (11, _), (10, _), (9, _), (8, _), (7, _), (6, _), (5, _), (4, _), (0, _), (1, _), (2, _), (3, _)] dL_come_492 (by decide) rfl rfl ?_
              refine g_aload_n X dL_come_494 rfl 15 rfl rfl ?_
              refine g_iconst (v := (2 : Int32)) X dL_come_495 (by decide) rfl ?_
              refine g_callVRX (w0 := []) (n := 1) (As := [_]) (rest := []) X (c_X6_count l D a fA naA wA td vl L pt fl kd kpA (fqa pqA) (fqa ps) (tlW D pqA ps) mk (min (n + 1) b) b hWA hNRA _) gL_come_X6_count rfl (by decide +kernel) ⟨Nat.le_of_ble_eq_true rfl, Nat.le_of_ble_eq_true rfl⟩ 20 rfl rfl rfl rfl rfl (Nat.le_of_ble_eq_true rfl) dL_come_496 ⟨Nat.le_of_ble_eq_true rfl, Nat.le_of_ble_eq_true rfl⟩ rfl (fun v hv => ?_)
              obtain rfl := hv
              refine g_st (st' := [_]) rfl ?_
              refine g_topi (oC2.trans hn8A) ?_
              refine g_iload X dL_come_499 0 rfl rfl ?_
              refine g_iconst (v := (1 : Int32)) X dL_come_501 (by decide) rfl ?_
              refine g_iadd X dL_come_502 rfl ?_
              refine g_topi (y := nI ((n - 1) + 1)) (nI_add (n - 1) 1) ?_
              refine g_icmp_ne X dL_come_503 578 (by decide) rfl (fun h503 => absurd (nj_ne (a := (min (n + 1) b)) (b := ((n - 1) + 1)) (by omega) (by omega) h503) (by omega)) (fun h503 => ?_)
              have i503 := nj_eq (a := (min (n + 1) b)) (b := ((n - 1) + 1)) (by omega) (by omega) h503
              refine g_aload_n X dL_come_506 rfl 15 rfl rfl ?_
              refine g_bipush (v := (8 : Int32)) X dL_come_507 (by decide) rfl ?_
              refine g_callVRX (w0 := []) (n := 1) (As := [_]) (rest := []) X (c_X6_count l D a fA naA wA td vl L pt fl kd kpA (fqa pqA) (fqa ps) (tlW D pqA ps) mk (min (n + 1) b) b hWA hNRA _) gL_come_X6_count rfl (by decide +kernel) ⟨Nat.le_of_ble_eq_true rfl, Nat.le_of_ble_eq_true rfl⟩ 20 rfl rfl rfl rfl rfl (Nat.le_of_ble_eq_true rfl) dL_come_509 ⟨Nat.le_of_ble_eq_true rfl, Nat.le_of_ble_eq_true rfl⟩ rfl (fun v hv => ?_)
              obtain rfl := hv
              refine g_st (st' := [_]) rfl ?_
              refine g_topi (oC8) ?_
              refine g_iload X dL_come_512 4 rfl rfl ?_
              refine g_iload X dL_come_514 1 rfl rfl ?_
              refine g_iadd X dL_come_516 rfl ?_
              refine g_icmp_ne X dL_come_517 578 (by decide) rfl (fun h517 => absurd (h82.trans (by rw [show n + 1 - b = 1 from by omega]; rfl)) h517) (fun h517 => ?_)
              refine g_aload_n X dL_come_520 rfl 15 rfl rfl ?_
              refine g_iload X dL_come_521 0 rfl rfl ?_
              refine g_iconst (v := (0 : Int32)) X dL_come_523 (by decide) rfl ?_
              refine g_callVRX (w0 := []) (n := 2) (As := [_, _]) (rest := []) X (c_X6_note l D a fA naA wA td vl L pt fl kd kpA (fqa pqA) (fqa ps) (tlW D pqA ps) mk (min (n + 1) b) b hWA hNRA _ _) gL_come_X6_note rfl (by decide +kernel) ⟨Nat.le_of_ble_eq_true rfl, Nat.le_of_ble_eq_true rfl⟩ 20 rfl rfl rfl rfl rfl (Nat.le_of_ble_eq_true rfl) dL_come_524 ⟨Nat.le_of_ble_eq_true rfl, Nat.le_of_ble_eq_true rfl⟩ rfl (fun v hv => ?_)
              obtain rfl := hv
              refine g_st (st' := [_]) rfl ?_
              refine g_topi (oNt (k := (n - 1)) 0 eN2A (by omega) hm8A rfl (by decide)) ?_
              refine g_topi ((show noteM fA ((n - 1)) 0 = nI g from by rw [show (n - 1) = min (n + 1) b - 1 from by omega]; exact en0)) ?_
              refine g_iload_n X dL_come_527 rfl 16 rfl rfl ?_
              refine g_icmp_ne X dL_come_528 578 (by decide) rfl (fun h528 => absurd rfl h528) (fun h528 => ?_)
              refine g_aload_n X dL_come_531 rfl 15 rfl rfl ?_
              refine g_iload X dL_come_532 0 rfl rfl ?_
              refine g_iconst (v := (1 : Int32)) X dL_come_534 (by decide) rfl ?_
              refine g_callVRX (w0 := []) (n := 2) (As := [_, _]) (rest := []) X (c_X6_note l D a fA naA wA td vl L pt fl kd kpA (fqa pqA) (fqa ps) (tlW D pqA ps) mk (min (n + 1) b) b hWA hNRA _ _) gL_come_X6_note rfl (by decide +kernel) ⟨Nat.le_of_ble_eq_true rfl, Nat.le_of_ble_eq_true rfl⟩ 20 rfl rfl rfl rfl rfl (Nat.le_of_ble_eq_true rfl) dL_come_535 ⟨Nat.le_of_ble_eq_true rfl, Nat.le_of_ble_eq_true rfl⟩ rfl (fun v hv => ?_)
              obtain rfl := hv
              refine g_st (st' := [_]) rfl ?_
              refine g_topi (oNt (k := (n - 1)) 1 eN2A (by omega) hm8A rfl (by decide)) ?_
              refine g_topi ((show noteM fA ((n - 1)) 1 = nI d from by rw [show (n - 1) = min (n + 1) b - 1 from by omega]; exact en1)) ?_
              refine g_iload_n X dL_come_538 rfl 17 rfl rfl ?_
              refine g_icmp_ne X dL_come_539 578 (by decide) rfl (fun h539 => absurd rfl h539) (fun h539 => ?_)
              refine g_aload_n X dL_come_542 rfl 15 rfl rfl ?_
              refine g_iload X dL_come_543 0 rfl rfl ?_
              refine g_iconst (v := (2 : Int32)) X dL_come_545 (by decide) rfl ?_
              refine g_callVRX (w0 := []) (n := 2) (As := [_, _]) (rest := []) X (c_X6_note l D a fA naA wA td vl L pt fl kd kpA (fqa pqA) (fqa ps) (tlW D pqA ps) mk (min (n + 1) b) b hWA hNRA _ _) gL_come_X6_note rfl (by decide +kernel) ⟨Nat.le_of_ble_eq_true rfl, Nat.le_of_ble_eq_true rfl⟩ 20 rfl rfl rfl rfl rfl (Nat.le_of_ble_eq_true rfl) dL_come_546 ⟨Nat.le_of_ble_eq_true rfl, Nat.le_of_ble_eq_true rfl⟩ rfl (fun v hv => ?_)
              obtain rfl := hv
              refine g_st (st' := [_]) rfl ?_
              refine g_topi (oNt (k := (n - 1)) 2 eN2A (by omega) hm8A rfl (by decide)) ?_
              refine g_topi ((show noteM fA ((n - 1)) 2 = nI nd from by rw [show (n - 1) = min (n + 1) b - 1 from by omega]; exact en2)) ?_
              refine g_iload_n X dL_come_549 rfl 18 rfl rfl ?_
              refine g_icmp_ne X dL_come_550 578 (by decide) rfl (fun h550 => absurd rfl h550) (fun h550 => ?_)
              refine g_aload_n X dL_come_553 rfl 15 rfl rfl ?_
              refine g_iload X dL_come_554 0 rfl rfl ?_
              refine g_iconst (v := (3 : Int32)) X dL_come_556 (by decide) rfl ?_
              refine g_callVRX (w0 := []) (n := 2) (As := [_, _]) (rest := []) X (c_X6_note l D a fA naA wA td vl L pt fl kd kpA (fqa pqA) (fqa ps) (tlW D pqA ps) mk (min (n + 1) b) b hWA hNRA _ _) gL_come_X6_note rfl (by decide +kernel) ⟨Nat.le_of_ble_eq_true rfl, Nat.le_of_ble_eq_true rfl⟩ 20 rfl rfl rfl rfl rfl (Nat.le_of_ble_eq_true rfl) dL_come_557 ⟨Nat.le_of_ble_eq_true rfl, Nat.le_of_ble_eq_true rfl⟩ rfl (fun v hv => ?_)
              obtain rfl := hv
              refine g_st (st' := [_]) rfl ?_
              refine g_topi (oNt (k := (n - 1)) 3 eN2A (by omega) hm8A rfl (by decide)) ?_
              refine g_topi ((show noteM fA ((n - 1)) 3 = ofM fA t 0 from by rw [show (n - 1) = min (n + 1) b - 1 from by omega]; exact ent)) ?_
              refine g_aload_n X dL_come_560 rfl 15 rfl rfl ?_
              refine g_aload_n X dL_come_561 rfl 15 rfl rfl ?_
              refine g_iload_n X dL_come_562 rfl 16 rfl rfl ?_
              refine g_iload_n X dL_come_563 rfl 17 rfl rfl ?_
              refine g_callVRX (w0 := []) (n := 2) (As := [_, _]) (rest := [_, _]) X (c_X6_leads l D a fA naA wA td vl L pt fl kd kpA (fqa pqA) (fqa ps) (tlW D pqA ps) mk (min (n + 1) b) b hWA hNRA _ _) gL_come_X6_leads rfl (by decide +kernel) ⟨Nat.le_of_ble_eq_true rfl, Nat.le_of_ble_eq_true rfl⟩ 20 rfl rfl rfl rfl rfl (Nat.le_of_ble_eq_true rfl) dL_come_564 ⟨Nat.le_of_ble_eq_true rfl, Nat.le_of_ble_eq_true rfl⟩ rfl (fun v hv => ?_)
              obtain rfl := hv
              refine g_st (st' := [_, _, _]) rfl ?_
              refine g_topi (oLd (g := g) (d := d) (by omega) (by omega)) ?_
              refine g_topi (elt) ?_
              refine g_iconst (v := (0 : Int32)) X dL_come_567 (by decide) rfl ?_
              refine g_callVRX (w0 := []) (n := 2) (As := [_, _]) (rest := [_]) X (c_X6_ofStamp l D a fA naA wA td vl L pt fl kd kpA (fqa pqA) (fqa ps) (tlW D pqA ps) mk (min (n + 1) b) b hWA hNRA _ _) gL_come_X6_ofStamp rfl (by decide +kernel) ⟨Nat.le_of_ble_eq_true rfl, Nat.le_of_ble_eq_true rfl⟩ 20 rfl rfl rfl rfl rfl (Nat.le_of_ble_eq_true rfl) dL_come_568 ⟨Nat.le_of_ble_eq_true rfl, Nat.le_of_ble_eq_true rfl⟩ rfl (fun v hv => ?_)
              obtain rfl := hv
              refine g_st (st' := [_, _]) rfl ?_
              refine g_topi (oSt (q := t) 0 eN1A (by omega) hm40A rfl (by decide)) ?_
              refine g_icmp_ne X dL_come_571 578 (by decide) rfl (fun h571 => absurd rfl h571) (fun h571 => ?_)
              refine g_iconst (v := (1 : Int32)) X dL_come_574 (by decide) rfl ?_
              refine g_goto X dL_come_575 579 (by decide) ?_
              refine g_retW X hr (by first | rfl | exact b2i_nar _) dL_come_579 hAe ?_
              exact ⟨rfl, fA, naA, wA, td, vl, L, pt, fl, kd, kpA, pqA, ⟨⟨_, _, _, hWA⟩, ⟨_, hNRA, hn8A⟩, hFA, hSA, hL, hch, hkpA, _, hHLA⟩, hADA, rfl⟩
        · refine g_istore X [(11, _), (10, _), (9, _), (8, _), (7, _), (6, _), (5, _), (4, _), (0, _), (1, _), (2, _), (3, _)] dL_come_126 (by decide) rfl rfl ?_
          rcases Bool.eq_false_or_eq_true wp with hwt | hwt
          · refine g_lve [(11, .int (nI (10 * i9 + r9))), (10, .int (-1)), (9, .int (1)), (8, .int (nI n)), (7, .int (f 80)), (6, .int (f 79)), (5, .int (f 78)), (4, .int (f 77)), (0, .ref (a 19)), (1, .int (nI g)), (2, .int (nI d)), (3, .int (nI nd))] (by rw [hwt]; rfl) ?_
            have hcw : cmW f (nI g) = true := hwp.symm.trans hwt
            refine g_aload_n X dL_come_128 rfl 8 rfl rfl ?_
            refine g_iload X dL_come_129 1 rfl rfl ?_
            refine g_if_lt X dL_come_131 138 (by decide) rfl (fun h131 => ?_) (fun h131 => absurd h131 (by decide))
            refine g_iload X dL_come_138 0 rfl rfl ?_
            refine g_bipush (v := (10 : Int32)) X dL_come_140 (by decide) rfl ?_
            refine g_irem X dL_come_142 (by decide) rfl ?_
            refine g_topi (y := nI ((10 * i9 + r9) % 10)) (nI_rem (a := (10 * i9 + r9)) (b := 10) (by omega) (by omega)) ?_
            refine g_topi ((show nI ((10 * i9 + r9) % 10) = nI r9 from by rw [show (10 * i9 + r9) % 10 = r9 from by omega])) ?_
            refine g_callVRX (w0 := []) (n := 1) (As := [_]) (rest := []) X (c_X6_ended l D a f na w td vl L pt fl kd kp (fqa pq) (fqa ps) (tlW D pq ps) mk n b hW hNR _) gL_come_X6_ended rfl (by decide +kernel) ⟨Nat.le_of_ble_eq_true rfl, Nat.le_of_ble_eq_true rfl⟩ 20 rfl rfl rfl rfl rfl (Nat.le_of_ble_eq_true rfl) dL_come_143 ⟨Nat.le_of_ble_eq_true rfl, Nat.le_of_ble_eq_true rfl⟩ rfl (fun v hv => ?_)
            obtain rfl := hv
            refine g_st (st' := [_]) rfl ?_
            refine g_topi (oEn (r := r9) (by omega)) ?_
            refine g_istore X [(12, _), (11, _), (10, _), (9, _), (8, _), (7, _), (6, _), (5, _), (4, _), (0, _), (1, _), (2, _), (3, _)] dL_come_146 (by decide) rfl rfl ?_
            refine g_aload_n X dL_come_148 rfl 9 rfl rfl ?_
            refine g_bipush (v := (7 : Int32)) X dL_come_149 (by decide) rfl ?_
            refine g_callVRX (w0 := []) (n := 1) (As := [_]) (rest := []) X (c_X6_count l D a f na w td vl L pt fl kd kp (fqa pq) (fqa ps) (tlW D pq ps) mk n b hW hNR _) gL_come_X6_count rfl (by decide +kernel) ⟨Nat.le_of_ble_eq_true rfl, Nat.le_of_ble_eq_true rfl⟩ 20 rfl rfl rfl rfl rfl (Nat.le_of_ble_eq_true rfl) dL_come_151 ⟨Nat.le_of_ble_eq_true rfl, Nat.le_of_ble_eq_true rfl⟩ rfl (fun v hv => ?_)
            obtain rfl := hv
            refine g_st (st' := [_]) rfl ?_
            refine g_topi (oC7) ?_
            refine g_istore X [(13, _), (12, _), (11, _), (10, _), (9, _), (8, _), (7, _), (6, _), (5, _), (4, _), (0, _), (1, _), (2, _), (3, _)] dL_come_154 (by decide) rfl rfl ?_
            refine g_aload_n X dL_come_156 rfl 10 rfl rfl ?_
            refine g_bipush (v := (8 : Int32)) X dL_come_157 (by decide) rfl ?_
            refine g_callVRX (w0 := []) (n := 1) (As := [_]) (rest := []) X (c_X6_count l D a f na w td vl L pt fl kd kp (fqa pq) (fqa ps) (tlW D pq ps) mk n b hW hNR _) gL_come_X6_count rfl (by decide +kernel) ⟨Nat.le_of_ble_eq_true rfl, Nat.le_of_ble_eq_true rfl⟩ 20 rfl rfl rfl rfl rfl (Nat.le_of_ble_eq_true rfl) dL_come_159 ⟨Nat.le_of_ble_eq_true rfl, Nat.le_of_ble_eq_true rfl⟩ rfl (fun v hv => ?_)
            obtain rfl := hv
            refine g_st (st' := [_]) rfl ?_
            refine g_topi (oC8) ?_
            refine g_istore X [(14, _), (13, _), (12, _), (11, _), (10, _), (9, _), (8, _), (7, _), (6, _), (5, _), (4, _), (0, _), (1, _), (2, _), (3, _)] dL_come_162 (by decide) rfl rfl ?_
            refine g_aload_n X dL_come_164 rfl 11 rfl rfl ?_
            refine g_iload_n X dL_come_165 rfl 12 rfl rfl ?_
            refine g_iload_n X dL_come_166 rfl 13 rfl rfl ?_
            refine g_iload_n X dL_come_167 rfl 14 rfl rfl ?_
            refine g_iconst (v := (0 : Int32)) X dL_come_168 (by decide) rfl ?_
            refine g_callVXs (n := 4) (As := [_, _, _, _]) (rest := []) X hAg rfl (c_X6_walk l D a f na w td vl L pt fl kd kp (fqa pq) (fqa ps) (tlW D pq ps) mk n b hW hNR _ _ _ _) gL_come_X6_walk rfl (by decide +kernel) ⟨Nat.le_of_ble_eq_true rfl, Nat.le_of_ble_eq_true rfl⟩ 20 rfl rfl rfl rfl (Nat.le_of_ble_eq_true rfl) dL_come_169 ⟨Nat.le_of_ble_eq_true rfl, Nat.le_of_ble_eq_true rfl⟩ rfl (fun v w9 hv => ?_)
            obtain ⟨rfl, w1, rfl⟩ := hv
            refine ⟨AD.rf rfl, ?_⟩
            refine g_st (st' := [_]) rfl ?_
            refine g_topi (oWk0 (g := g) (d := d) (e := nd) hg6 hd10 he12) ?_
            refine g_topi (er9) ?_
            refine g_iload X dL_come_172 3 rfl rfl ?_
            refine g_bipush (v := (10 : Int32)) X dL_come_174 (by decide) rfl ?_
            refine g_irem X dL_come_176 (by decide) rfl ?_
            refine g_topi (y := nI ((10 * i9 + r9) % 10)) (nI_rem (a := (10 * i9 + r9)) (b := 10) (by omega) (by omega)) ?_
            refine g_topi ((show nI ((10 * i9 + r9) % 10) = nI r9 from by rw [show (10 * i9 + r9) % 10 = r9 from by omega])) ?_
            refine g_icmp_ne X dL_come_177 196 (by decide) rfl (fun h177 => absurd rfl h177) (fun h177 => ?_)
            refine g_aload_n X dL_come_180 rfl 11 rfl rfl ?_
            refine g_iload_n X dL_come_181 rfl 12 rfl rfl ?_
            refine g_iload_n X dL_come_182 rfl 13 rfl rfl ?_
            refine g_iload_n X dL_come_183 rfl 14 rfl rfl ?_
            refine g_iconst (v := (1 : Int32)) X dL_come_184 (by decide) rfl ?_
            refine g_callVXs (n := 4) (As := [_, _, _, _]) (rest := []) X hAg rfl (c_X6_walk l D a f na w1 td vl L pt fl kd kp (fqa pq) (fqa ps) (tlW D pq ps) mk n b hW hNR _ _ _ _) gL_come_X6_walk rfl (by decide +kernel) ⟨Nat.le_of_ble_eq_true rfl, Nat.le_of_ble_eq_true rfl⟩ 20 rfl rfl rfl rfl (Nat.le_of_ble_eq_true rfl) dL_come_185 ⟨Nat.le_of_ble_eq_true rfl, Nat.le_of_ble_eq_true rfl⟩ rfl (fun v w9 hv => ?_)
            obtain ⟨rfl, w2, rfl⟩ := hv
            refine ⟨AD.rf rfl, ?_⟩
            refine g_st (st' := [_]) rfl ?_
            refine g_topi (oWk1 (g := g) (d := d) (e := nd) hg6 hd10 he12) ?_
            refine g_topi ((by rw [ei9])) ?_
            refine g_iload X dL_come_188 3 rfl rfl ?_
            refine g_bipush (v := (10 : Int32)) X dL_come_190 (by decide) rfl ?_
            refine g_idiv X dL_come_192 (by decide) rfl ?_
            refine g_topi (y := nI ((10 * i9 + r9) / 10)) (nI_div (a := (10 * i9 + r9)) (b := 10) (by omega) (by omega)) ?_
            refine g_topi ((show nI ((10 * i9 + r9) / 10) = nI i9 from by rw [show (10 * i9 + r9) / 10 = i9 from by omega])) ?_
            refine g_icmp_eq X dL_come_193 198 (by decide) rfl (fun h193 => ?_) (fun h193 => absurd rfl h193)
            refine g_aload_n X dL_come_198 rfl 11 rfl rfl ?_
            refine g_iload_n X dL_come_199 rfl 12 rfl rfl ?_
            refine g_iload_n X dL_come_200 rfl 13 rfl rfl ?_
            refine g_iload_n X dL_come_201 rfl 14 rfl rfl ?_
            refine g_callVXs (n := 3) (As := [_, _, _]) (rest := []) X hAg rfl (c_X6_come l D a f na w2 td vl L pt fl kd kp pq ps mk n b hW hNR hF hkp hHL.hq _ _ _) gL_come_X6_come rfl (by decide +kernel) ⟨Nat.le_of_ble_eq_true rfl, Nat.le_of_ble_eq_true rfl⟩ 20 rfl rfl rfl rfl (Nat.le_of_ble_eq_true rfl) dL_come_202 ⟨Nat.le_of_ble_eq_true rfl, Nat.le_of_ble_eq_true rfl⟩ rfl (fun v w9 hv => ?_)
            obtain ⟨rfl, fA, naA, wA, kpA, pqA, efA, hNA, hAA, hkpA, hHLA, ekA, rfl⟩ := ch_out hv hkp hHL hF ⟨_, hNR, hn8⟩
            have hADA := hAA
            refine ⟨hAA, ?_⟩
            refine g_st (st' := [_]) rfl ?_
            obtain ⟨hrx, hWA, hSA, h77, h78, h79, h80, h81, h82, h83⟩ := come_B hW hS hg6 hd10 he12 hno er9 ei9 hr7 h0 efA
            rw [hcw] at hWA h81
            rw [if_pos rfl] at hWA h81
            refine g_topi (hrx) ?_
            have hNRA := hNA.to hWA
            have hFA : FB fA := by rw [efA]; exact come_fb ⟨mk, n, b, hW⟩ hF
            obtain ⟨hmkA, hm40A, hn8A, hb0A, hb0A1, hb0A8, hn8Ab, hstA, hnoA, howA, hdoA, hb0Aa, hb0Ac, hb0Ad, hb0Az⟩ := id hWA
            have hm8A : 0 ≤ 8 := by omega
            obtain ⟨eN1A, eN2A, -⟩ := hWA.N
            refine g_istore X [(15, _), (14, _), (13, _), (12, _), (11, _), (10, _), (9, _), (8, _), (7, _), (6, _), (5, _), (4, _), (0, _), (1, _), (2, _), (3, _)] dL_come_205 (by decide) rfl rfl ?_
            refine g_aload_n X dL_come_207 rfl 12 rfl rfl ?_
            refine g_iconst (v := (3 : Int32)) X dL_come_208 (by decide) rfl ?_
            refine g_callVRX (w0 := []) (n := 1) (As := [_]) (rest := []) X (c_X6_count l D a fA naA wA td vl L pt fl kd kpA (fqa pqA) (fqa ps) (tlW D pqA ps) mk 0 b hWA hNRA _) gL_come_X6_count rfl (by decide +kernel) ⟨Nat.le_of_ble_eq_true rfl, Nat.le_of_ble_eq_true rfl⟩ 20 rfl rfl rfl rfl rfl (Nat.le_of_ble_eq_true rfl) dL_come_209 ⟨Nat.le_of_ble_eq_true rfl, Nat.le_of_ble_eq_true rfl⟩ rfl (fun v hv => ?_)
            obtain rfl := hv
            refine g_st (st' := [_]) rfl ?_
            refine g_topi (oC3) ?_
            refine g_topi (h77) ?_
            refine g_iload_n X dL_come_212 rfl 13 rfl rfl ?_
            refine g_icmp_ne X dL_come_213 251 (by decide) rfl (fun h213 => absurd rfl h213) (fun h213 => ?_)
            refine g_aload_n X dL_come_216 rfl 12 rfl rfl ?_
            refine g_iconst (v := (4 : Int32)) X dL_come_217 (by decide) rfl ?_
            refine g_callVRX (w0 := []) (n := 1) (As := [_]) (rest := []) X (c_X6_count l D a fA naA wA td vl L pt fl kd kpA (fqa pqA) (fqa ps) (tlW D pqA ps) mk 0 b hWA hNRA _) gL_come_X6_count rfl (by decide +kernel) ⟨Nat.le_of_ble_eq_true rfl, Nat.le_of_ble_eq_true rfl⟩ 20 rfl rfl rfl rfl rfl (Nat.le_of_ble_eq_true rfl) dL_come_218 ⟨Nat.le_of_ble_eq_true rfl, Nat.le_of_ble_eq_true rfl⟩ rfl (fun v hv => ?_)
            obtain rfl := hv
            refine g_st (st' := [_]) rfl ?_
            refine g_topi (oC4) ?_
            refine g_topi (h78) ?_
            refine g_iload X dL_come_221 10 rfl rfl ?_
            refine g_iconst (v := (1 : Int32)) X dL_come_223 (by decide) rfl ?_
            refine g_iadd X dL_come_224 rfl ?_
            refine g_icmp_ne X dL_come_225 251 (by decide) rfl (fun h225 => absurd rfl h225) (fun h225 => ?_)
            refine g_aload_n X dL_come_228 rfl 12 rfl rfl ?_
            refine g_bipush (v := (7 : Int32)) X dL_come_229 (by decide) rfl ?_
            refine g_callVRX (w0 := []) (n := 1) (As := [_]) (rest := []) X (c_X6_count l D a fA naA wA td vl L pt fl kd kpA (fqa pqA) (fqa ps) (tlW D pqA ps) mk 0 b hWA hNRA _) gL_come_X6_count rfl (by decide +kernel) ⟨Nat.le_of_ble_eq_true rfl, Nat.le_of_ble_eq_true rfl⟩ 20 rfl rfl rfl rfl rfl (Nat.le_of_ble_eq_true rfl) dL_come_231 ⟨Nat.le_of_ble_eq_true rfl, Nat.le_of_ble_eq_true rfl⟩ rfl (fun v hv => ?_)
            obtain rfl := hv
            refine g_st (st' := [_]) rfl ?_
            refine g_topi (oC7) ?_
            refine g_iload X dL_come_234 2 rfl rfl ?_
            refine g_iload X dL_come_236 6 rfl rfl ?_
            refine g_if_eq X dL_come_238 246 (by decide) rfl (fun h238 => absurd h238 (by decide)) (fun h238 => ?_)
            refine g_iload X dL_come_241 7 rfl rfl ?_
            refine g_goto X dL_come_243 247 (by decide) ?_
            refine g_iadd X dL_come_247 rfl ?_
            refine g_icmp_eq X dL_come_248 253 (by decide) rfl (fun h248 => ?_) (fun h248 => absurd (h81.trans (by first | rfl | (rw [Int32.add_zero]; done))) h248)
            refine g_iload X dL_come_253 6 rfl rfl ?_
            refine g_if_eq X dL_come_255 262 (by decide) rfl (fun h255 => absurd h255 (by decide)) (fun h255 => ?_)
            refine g_iconst (v := (0 : Int32)) X dL_come_258 (by decide) rfl ?_
            refine g_goto X dL_come_259 264 (by decide) ?_
            refine g_topi ((show (0 : Int32) = nI 0 from rfl)) ?_
            refine g_istore X [(16, _), (15, _), (14, _), (13, _), (12, _), (11, _), (10, _), (9, _), (8, _), (7, _), (6, _), (5, _), (4, _), (0, _), (1, _), (2, _), (3, _)] dL_come_264 (by decide) rfl rfl ?_
            refine g_iload X dL_come_266 6 rfl rfl ?_
            refine g_if_lt X dL_come_268 383 (by decide) rfl (fun h268 => ?_) (fun h268 => absurd h268 (by decide))
            refine g_iload X dL_come_383 1 rfl rfl ?_
            refine g_iload X dL_come_385 5 rfl rfl ?_
            refine g_bipush (v := (10 : Int32)) X dL_come_387 (by decide) rfl ?_
            refine g_irem X dL_come_389 (by decide) rfl ?_
            refine g_topi (y := nI ((10 * i9 + r9) % 10)) (nI_rem (a := (10 * i9 + r9)) (b := 10) (by omega) (by omega)) ?_
            refine g_topi ((show nI ((10 * i9 + r9) % 10) = nI r9 from by rw [show (10 * i9 + r9) % 10 = r9 from by omega])) ?_
            refine g_icmp_ne X dL_come_390 433 (by decide) rfl (fun h390 => absurd rfl h390) (fun h390 => ?_)
            refine g_aload_n X dL_come_393 rfl 13 rfl rfl ?_
            refine g_iconst (v := (5 : Int32)) X dL_come_394 (by decide) rfl ?_
            refine g_callVRX (w0 := []) (n := 1) (As := [_]) (rest := []) X (c_X6_count l D a fA naA wA td vl L pt fl kd kpA (fqa pqA) (fqa ps) (tlW D pqA ps) mk 0 b hWA hNRA _) gL_come_X6_count rfl (by decide +kernel) ⟨Nat.le_of_ble_eq_true rfl, Nat.le_of_ble_eq_true rfl⟩ 20 rfl rfl rfl rfl rfl (Nat.le_of_ble_eq_true rfl) dL_come_395 ⟨Nat.le_of_ble_eq_true rfl, Nat.le_of_ble_eq_true rfl⟩ rfl (fun v hv => ?_)
            obtain rfl := hv
            refine g_st (st' := [_]) rfl ?_
            refine g_topi (oC5) ?_
            refine g_topi (h79) ?_
            refine g_iload X dL_come_398 10 rfl rfl ?_
            refine g_icmp_ne X dL_come_400 433 (by decide) rfl (fun h400 => absurd rfl h400) (fun h400 => ?_)
            refine g_aload_n X dL_come_403 rfl 13 rfl rfl ?_
            refine g_bipush (v := (6 : Int32)) X dL_come_404 (by decide) rfl ?_
            refine g_callVRX (w0 := []) (n := 1) (As := [_]) (rest := []) X (c_X6_count l D a fA naA wA td vl L pt fl kd kpA (fqa pqA) (fqa ps) (tlW D pqA ps) mk 0 b hWA hNRA _) gL_come_X6_count rfl (by decide +kernel) ⟨Nat.le_of_ble_eq_true rfl, Nat.le_of_ble_eq_true rfl⟩ 20 rfl rfl rfl rfl rfl (Nat.le_of_ble_eq_true rfl) dL_come_406 ⟨Nat.le_of_ble_eq_true rfl, Nat.le_of_ble_eq_true rfl⟩ rfl (fun v hv => ?_)
            obtain rfl := hv
            refine g_st (st' := [_]) rfl ?_
            refine g_topi (oC6) ?_
            refine g_topi (h80) ?_
            refine g_iload X dL_come_409 9 rfl rfl ?_
            refine g_iload X dL_come_411 5 rfl rfl ?_
            refine g_bipush (v := (10 : Int32)) X dL_come_413 (by decide) rfl ?_
            refine g_idiv X dL_come_415 (by decide) rfl ?_
            refine g_topi (y := nI ((10 * i9 + r9) / 10)) (nI_div (a := (10 * i9 + r9)) (b := 10) (by omega) (by omega)) ?_
            refine g_topi ((show nI ((10 * i9 + r9) / 10) = nI i9 from by rw [show (10 * i9 + r9) / 10 = i9 from by omega])) ?_
            refine g_iadd X dL_come_416 rfl ?_
            refine g_icmp_ne X dL_come_417 433 (by decide) rfl (fun h417 => absurd rfl h417) (fun h417 => ?_)
            refine g_aload_n X dL_come_420 rfl 13 rfl rfl ?_
            refine g_iload X dL_come_421 1 rfl rfl ?_
            refine g_callVRX (w0 := []) (n := 1) (As := [_]) (rest := []) X (c_X6_ended l D a fA naA wA td vl L pt fl kd kpA (fqa pqA) (fqa ps) (tlW D pqA ps) mk 0 b hWA hNRA _) gL_come_X6_ended rfl (by decide +kernel) ⟨Nat.le_of_ble_eq_true rfl, Nat.le_of_ble_eq_true rfl⟩ 20 rfl rfl rfl rfl rfl (Nat.le_of_ble_eq_true rfl) dL_come_423 ⟨Nat.le_of_ble_eq_true rfl, Nat.le_of_ble_eq_true rfl⟩ rfl (fun v hv => ?_)
            obtain rfl := hv
            refine g_st (st' := [_]) rfl ?_
            refine g_topi (oEn (r := r9) (by omega)) ?_
            refine g_topi (h83) ?_
            refine g_iload X dL_come_426 4 rfl rfl ?_
            refine g_iconst (v := (1 : Int32)) X dL_come_428 (by decide) rfl ?_
            refine g_iadd X dL_come_429 rfl ?_
            refine g_icmp_eq X dL_come_430 435 (by decide) rfl (fun h430 => ?_) (fun h430 => absurd rfl h430)
            refine g_iload X dL_come_435 1 rfl rfl ?_
            refine g_if_le X dL_come_437 467 (by decide) rfl (fun h437 => absurd (nj_le (a := r9) (b := 0) (by omega) (by omega) h437) (by omega)) (fun h437 => ?_)
            have i437 := nj_nle (a := r9) (b := 0) (by omega) (by omega) h437
            refine g_aload_n X dL_come_440 rfl 13 rfl rfl ?_
            refine g_iconst (v := (2 : Int32)) X dL_come_441 (by decide) rfl ?_
            refine g_callVRX (w0 := []) (n := 1) (As := [_]) (rest := []) X (c_X6_count l D a fA naA wA td vl L pt fl kd kpA (fqa pqA) (fqa ps) (tlW D pqA ps) mk 0 b hWA hNRA _) gL_come_X6_count rfl (by decide +kernel) ⟨Nat.le_of_ble_eq_true rfl, Nat.le_of_ble_eq_true rfl⟩ 20 rfl rfl rfl rfl rfl (Nat.le_of_ble_eq_true rfl) dL_come_442 ⟨Nat.le_of_ble_eq_true rfl, Nat.le_of_ble_eq_true rfl⟩ rfl (fun v hv => ?_)
            obtain rfl := hv
            refine g_st (st' := [_]) rfl ?_
            refine g_topi (oC2.trans hn8A) ?_
            refine g_iload X dL_come_445 0 rfl rfl ?_
            refine g_icmp_ne X dL_come_447 465 (by decide) rfl (fun h447 => absurd rfl h447) (fun h447 => ?_)
            refine g_aload_n X dL_come_450 rfl 13 rfl rfl ?_
            refine g_bipush (v := (8 : Int32)) X dL_come_451 (by decide) rfl ?_
            refine g_callVRX (w0 := []) (n := 1) (As := [_]) (rest := []) X (c_X6_count l D a fA naA wA td vl L pt fl kd kpA (fqa pqA) (fqa ps) (tlW D pqA ps) mk 0 b hWA hNRA _) gL_come_X6_count rfl (by decide +kernel) ⟨Nat.le_of_ble_eq_true rfl, Nat.le_of_ble_eq_true rfl⟩ 20 rfl rfl rfl rfl rfl (Nat.le_of_ble_eq_true rfl) dL_come_453 ⟨Nat.le_of_ble_eq_true rfl, Nat.le_of_ble_eq_true rfl⟩ rfl (fun v hv => ?_)
            obtain rfl := hv
            refine g_st (st' := [_]) rfl ?_
            refine g_topi (oC8) ?_
            refine g_topi (h82) ?_
            refine g_iload X dL_come_456 2 rfl rfl ?_
            refine g_icmp_ne X dL_come_458 465 (by decide) rfl (fun h458 => absurd rfl h458) (fun h458 => ?_)
            refine g_iconst (v := (1 : Int32)) X dL_come_461 (by decide) rfl ?_
            refine g_goto X dL_come_462 466 (by decide) ?_
            refine g_retW X hr (by first | rfl | exact b2i_nar _) dL_come_466 hAe ?_
            exact ⟨rfl, fA, naA, wA, td, vl, L, pt, fl, kd, kpA, pqA, ⟨⟨_, _, _, hWA⟩, ⟨_, hNRA, hn8A⟩, hFA, hSA, hL, hch, hkpA, _, hHLA⟩, hADA, rfl⟩
          · refine g_lve [(11, .int (nI (10 * i9 + r9))), (10, .int (-1)), (9, .int (0)), (8, .int (nI n)), (7, .int (f 80)), (6, .int (f 79)), (5, .int (f 78)), (4, .int (f 77)), (0, .ref (a 19)), (1, .int (nI g)), (2, .int (nI d)), (3, .int (nI nd))] (by rw [hwt]; rfl) ?_
            have hcw : cmW f (nI g) = false := hwp.symm.trans hwt
            refine g_aload_n X dL_come_128 rfl 8 rfl rfl ?_
            refine g_iload X dL_come_129 1 rfl rfl ?_
            refine g_if_lt X dL_come_131 138 (by decide) rfl (fun h131 => ?_) (fun h131 => absurd h131 (by decide))
            refine g_iload X dL_come_138 0 rfl rfl ?_
            refine g_bipush (v := (10 : Int32)) X dL_come_140 (by decide) rfl ?_
            refine g_irem X dL_come_142 (by decide) rfl ?_
            refine g_topi (y := nI ((10 * i9 + r9) % 10)) (nI_rem (a := (10 * i9 + r9)) (b := 10) (by omega) (by omega)) ?_
            refine g_topi ((show nI ((10 * i9 + r9) % 10) = nI r9 from by rw [show (10 * i9 + r9) % 10 = r9 from by omega])) ?_
            refine g_callVRX (w0 := []) (n := 1) (As := [_]) (rest := []) X (c_X6_ended l D a f na w td vl L pt fl kd kp (fqa pq) (fqa ps) (tlW D pq ps) mk n b hW hNR _) gL_come_X6_ended rfl (by decide +kernel) ⟨Nat.le_of_ble_eq_true rfl, Nat.le_of_ble_eq_true rfl⟩ 20 rfl rfl rfl rfl rfl (Nat.le_of_ble_eq_true rfl) dL_come_143 ⟨Nat.le_of_ble_eq_true rfl, Nat.le_of_ble_eq_true rfl⟩ rfl (fun v hv => ?_)
            obtain rfl := hv
            refine g_st (st' := [_]) rfl ?_
            refine g_topi (oEn (r := r9) (by omega)) ?_
            refine g_istore X [(12, _), (11, _), (10, _), (9, _), (8, _), (7, _), (6, _), (5, _), (4, _), (0, _), (1, _), (2, _), (3, _)] dL_come_146 (by decide) rfl rfl ?_
            refine g_aload_n X dL_come_148 rfl 9 rfl rfl ?_
            refine g_bipush (v := (7 : Int32)) X dL_come_149 (by decide) rfl ?_
            refine g_callVRX (w0 := []) (n := 1) (As := [_]) (rest := []) X (c_X6_count l D a f na w td vl L pt fl kd kp (fqa pq) (fqa ps) (tlW D pq ps) mk n b hW hNR _) gL_come_X6_count rfl (by decide +kernel) ⟨Nat.le_of_ble_eq_true rfl, Nat.le_of_ble_eq_true rfl⟩ 20 rfl rfl rfl rfl rfl (Nat.le_of_ble_eq_true rfl) dL_come_151 ⟨Nat.le_of_ble_eq_true rfl, Nat.le_of_ble_eq_true rfl⟩ rfl (fun v hv => ?_)
            obtain rfl := hv
            refine g_st (st' := [_]) rfl ?_
            refine g_topi (oC7) ?_
            refine g_istore X [(13, _), (12, _), (11, _), (10, _), (9, _), (8, _), (7, _), (6, _), (5, _), (4, _), (0, _), (1, _), (2, _), (3, _)] dL_come_154 (by decide) rfl rfl ?_
            refine g_aload_n X dL_come_156 rfl 10 rfl rfl ?_
            refine g_bipush (v := (8 : Int32)) X dL_come_157 (by decide) rfl ?_
            refine g_callVRX (w0 := []) (n := 1) (As := [_]) (rest := []) X (c_X6_count l D a f na w td vl L pt fl kd kp (fqa pq) (fqa ps) (tlW D pq ps) mk n b hW hNR _) gL_come_X6_count rfl (by decide +kernel) ⟨Nat.le_of_ble_eq_true rfl, Nat.le_of_ble_eq_true rfl⟩ 20 rfl rfl rfl rfl rfl (Nat.le_of_ble_eq_true rfl) dL_come_159 ⟨Nat.le_of_ble_eq_true rfl, Nat.le_of_ble_eq_true rfl⟩ rfl (fun v hv => ?_)
            obtain rfl := hv
            refine g_st (st' := [_]) rfl ?_
            refine g_topi (oC8) ?_
            refine g_istore X [(14, _), (13, _), (12, _), (11, _), (10, _), (9, _), (8, _), (7, _), (6, _), (5, _), (4, _), (0, _), (1, _), (2, _), (3, _)] dL_come_162 (by decide) rfl rfl ?_
            refine g_aload_n X dL_come_164 rfl 11 rfl rfl ?_
            refine g_iload_n X dL_come_165 rfl 12 rfl rfl ?_
            refine g_iload_n X dL_come_166 rfl 13 rfl rfl ?_
            refine g_iload_n X dL_come_167 rfl 14 rfl rfl ?_
            refine g_iconst (v := (0 : Int32)) X dL_come_168 (by decide) rfl ?_
            refine g_callVXs (n := 4) (As := [_, _, _, _]) (rest := []) X hAg rfl (c_X6_walk l D a f na w td vl L pt fl kd kp (fqa pq) (fqa ps) (tlW D pq ps) mk n b hW hNR _ _ _ _) gL_come_X6_walk rfl (by decide +kernel) ⟨Nat.le_of_ble_eq_true rfl, Nat.le_of_ble_eq_true rfl⟩ 20 rfl rfl rfl rfl (Nat.le_of_ble_eq_true rfl) dL_come_169 ⟨Nat.le_of_ble_eq_true rfl, Nat.le_of_ble_eq_true rfl⟩ rfl (fun v w9 hv => ?_)
            obtain ⟨rfl, w1, rfl⟩ := hv
            refine ⟨AD.rf rfl, ?_⟩
            refine g_st (st' := [_]) rfl ?_
            refine g_topi (oWk0 (g := g) (d := d) (e := nd) hg6 hd10 he12) ?_
            refine g_topi (er9) ?_
            refine g_iload X dL_come_172 3 rfl rfl ?_
            refine g_bipush (v := (10 : Int32)) X dL_come_174 (by decide) rfl ?_
            refine g_irem X dL_come_176 (by decide) rfl ?_
            refine g_topi (y := nI ((10 * i9 + r9) % 10)) (nI_rem (a := (10 * i9 + r9)) (b := 10) (by omega) (by omega)) ?_
            refine g_topi ((show nI ((10 * i9 + r9) % 10) = nI r9 from by rw [show (10 * i9 + r9) % 10 = r9 from by omega])) ?_
            refine g_icmp_ne X dL_come_177 196 (by decide) rfl (fun h177 => absurd rfl h177) (fun h177 => ?_)
            refine g_aload_n X dL_come_180 rfl 11 rfl rfl ?_
            refine g_iload_n X dL_come_181 rfl 12 rfl rfl ?_
            refine g_iload_n X dL_come_182 rfl 13 rfl rfl ?_
            refine g_iload_n X dL_come_183 rfl 14 rfl rfl ?_
            refine g_iconst (v := (1 : Int32)) X dL_come_184 (by decide) rfl ?_
            refine g_callVXs (n := 4) (As := [_, _, _, _]) (rest := []) X hAg rfl (c_X6_walk l D a f na w1 td vl L pt fl kd kp (fqa pq) (fqa ps) (tlW D pq ps) mk n b hW hNR _ _ _ _) gL_come_X6_walk rfl (by decide +kernel) ⟨Nat.le_of_ble_eq_true rfl, Nat.le_of_ble_eq_true rfl⟩ 20 rfl rfl rfl rfl (Nat.le_of_ble_eq_true rfl) dL_come_185 ⟨Nat.le_of_ble_eq_true rfl, Nat.le_of_ble_eq_true rfl⟩ rfl (fun v w9 hv => ?_)
            obtain ⟨rfl, w2, rfl⟩ := hv
            refine ⟨AD.rf rfl, ?_⟩
            refine g_st (st' := [_]) rfl ?_
            refine g_topi (oWk1 (g := g) (d := d) (e := nd) hg6 hd10 he12) ?_
            refine g_topi ((by rw [ei9])) ?_
            refine g_iload X dL_come_188 3 rfl rfl ?_
            refine g_bipush (v := (10 : Int32)) X dL_come_190 (by decide) rfl ?_
            refine g_idiv X dL_come_192 (by decide) rfl ?_
            refine g_topi (y := nI ((10 * i9 + r9) / 10)) (nI_div (a := (10 * i9 + r9)) (b := 10) (by omega) (by omega)) ?_
            refine g_topi ((show nI ((10 * i9 + r9) / 10) = nI i9 from by rw [show (10 * i9 + r9) / 10 = i9 from by omega])) ?_
            refine g_icmp_eq X dL_come_193 198 (by decide) rfl (fun h193 => ?_) (fun h193 => absurd rfl h193)
            refine g_aload_n X dL_come_198 rfl 11 rfl rfl ?_
            refine g_iload_n X dL_come_199 rfl 12 rfl rfl ?_
            refine g_iload_n X dL_come_200 rfl 13 rfl rfl ?_
            refine g_iload_n X dL_come_201 rfl 14 rfl rfl ?_
            refine g_callVXs (n := 3) (As := [_, _, _]) (rest := []) X hAg rfl (c_X6_come l D a f na w2 td vl L pt fl kd kp pq ps mk n b hW hNR hF hkp hHL.hq _ _ _) gL_come_X6_come rfl (by decide +kernel) ⟨Nat.le_of_ble_eq_true rfl, Nat.le_of_ble_eq_true rfl⟩ 20 rfl rfl rfl rfl (Nat.le_of_ble_eq_true rfl) dL_come_202 ⟨Nat.le_of_ble_eq_true rfl, Nat.le_of_ble_eq_true rfl⟩ rfl (fun v w9 hv => ?_)
            obtain ⟨rfl, fA, naA, wA, kpA, pqA, efA, hNA, hAA, hkpA, hHLA, ekA, rfl⟩ := ch_out hv hkp hHL hF ⟨_, hNR, hn8⟩
            have hADA := hAA
            refine ⟨hAA, ?_⟩
            refine g_st (st' := [_]) rfl ?_
            obtain ⟨hrx, hWA, hSA, h77, h78, h79, h80, h81, h82, h83⟩ := come_B hW hS hg6 hd10 he12 hno er9 ei9 hr7 h0 efA
            rw [hcw] at hWA h81
            rw [if_neg Bool.false_ne_true] at hWA h81
            refine g_topi (hrx) ?_
            have hNRA := hNA.to hWA
            have hFA : FB fA := by rw [efA]; exact come_fb ⟨mk, n, b, hW⟩ hF
            obtain ⟨hmkA, hm40A, hn8A, hb0A, hb0A1, hb0A8, hn8Ab, hstA, hnoA, howA, hdoA, hb0Aa, hb0Ac, hb0Ad, hb0Az⟩ := id hWA
            have hm8A : n ≤ 8 := by omega
            obtain ⟨eN1A, eN2A, -⟩ := hWA.N
            refine g_istore X [(15, _), (14, _), (13, _), (12, _), (11, _), (10, _), (9, _), (8, _), (7, _), (6, _), (5, _), (4, _), (0, _), (1, _), (2, _), (3, _)] dL_come_205 (by decide) rfl rfl ?_
            refine g_aload_n X dL_come_207 rfl 12 rfl rfl ?_
            refine g_iconst (v := (3 : Int32)) X dL_come_208 (by decide) rfl ?_
            refine g_callVRX (w0 := []) (n := 1) (As := [_]) (rest := []) X (c_X6_count l D a fA naA wA td vl L pt fl kd kpA (fqa pqA) (fqa ps) (tlW D pqA ps) mk n b hWA hNRA _) gL_come_X6_count rfl (by decide +kernel) ⟨Nat.le_of_ble_eq_true rfl, Nat.le_of_ble_eq_true rfl⟩ 20 rfl rfl rfl rfl rfl (Nat.le_of_ble_eq_true rfl) dL_come_209 ⟨Nat.le_of_ble_eq_true rfl, Nat.le_of_ble_eq_true rfl⟩ rfl (fun v hv => ?_)
            obtain rfl := hv
            refine g_st (st' := [_]) rfl ?_
            refine g_topi (oC3) ?_
            refine g_topi (h77) ?_
            refine g_iload_n X dL_come_212 rfl 13 rfl rfl ?_
            refine g_icmp_ne X dL_come_213 251 (by decide) rfl (fun h213 => absurd rfl h213) (fun h213 => ?_)
            refine g_aload_n X dL_come_216 rfl 12 rfl rfl ?_
            refine g_iconst (v := (4 : Int32)) X dL_come_217 (by decide) rfl ?_
            refine g_callVRX (w0 := []) (n := 1) (As := [_]) (rest := []) X (c_X6_count l D a fA naA wA td vl L pt fl kd kpA (fqa pqA) (fqa ps) (tlW D pqA ps) mk n b hWA hNRA _) gL_come_X6_count rfl (by decide +kernel) ⟨Nat.le_of_ble_eq_true rfl, Nat.le_of_ble_eq_true rfl⟩ 20 rfl rfl rfl rfl rfl (Nat.le_of_ble_eq_true rfl) dL_come_218 ⟨Nat.le_of_ble_eq_true rfl, Nat.le_of_ble_eq_true rfl⟩ rfl (fun v hv => ?_)
            obtain rfl := hv
            refine g_st (st' := [_]) rfl ?_
            refine g_topi (oC4) ?_
            refine g_topi (h78) ?_
            refine g_iload X dL_come_221 10 rfl rfl ?_
            refine g_iconst (v := (1 : Int32)) X dL_come_223 (by decide) rfl ?_
            refine g_iadd X dL_come_224 rfl ?_
            refine g_icmp_ne X dL_come_225 251 (by decide) rfl (fun h225 => absurd rfl h225) (fun h225 => ?_)
            refine g_aload_n X dL_come_228 rfl 12 rfl rfl ?_
            refine g_bipush (v := (7 : Int32)) X dL_come_229 (by decide) rfl ?_
            refine g_callVRX (w0 := []) (n := 1) (As := [_]) (rest := []) X (c_X6_count l D a fA naA wA td vl L pt fl kd kpA (fqa pqA) (fqa ps) (tlW D pqA ps) mk n b hWA hNRA _) gL_come_X6_count rfl (by decide +kernel) ⟨Nat.le_of_ble_eq_true rfl, Nat.le_of_ble_eq_true rfl⟩ 20 rfl rfl rfl rfl rfl (Nat.le_of_ble_eq_true rfl) dL_come_231 ⟨Nat.le_of_ble_eq_true rfl, Nat.le_of_ble_eq_true rfl⟩ rfl (fun v hv => ?_)
            obtain rfl := hv
            refine g_st (st' := [_]) rfl ?_
            refine g_topi (oC7) ?_
            refine g_iload X dL_come_234 2 rfl rfl ?_
            refine g_iload X dL_come_236 6 rfl rfl ?_
            refine g_if_eq X dL_come_238 246 (by decide) rfl (fun h238 => ?_) (fun h238 => absurd h238 (by decide))
            refine g_iconst (v := (0 : Int32)) X dL_come_246 (by decide) rfl ?_
            refine g_iadd X dL_come_247 rfl ?_
            refine g_icmp_eq X dL_come_248 253 (by decide) rfl (fun h248 => ?_) (fun h248 => absurd (h81.trans (by first | rfl | (rw [Int32.add_zero]; done))) h248)
            refine g_iload X dL_come_253 6 rfl rfl ?_
            refine g_if_eq X dL_come_255 262 (by decide) rfl (fun h255 => ?_) (fun h255 => absurd h255 (by decide))
            refine g_iload X dL_come_262 7 rfl rfl ?_
            refine g_istore X [(16, _), (15, _), (14, _), (13, _), (12, _), (11, _), (10, _), (9, _), (8, _), (7, _), (6, _), (5, _), (4, _), (0, _), (1, _), (2, _), (3, _)] dL_come_264 (by decide) rfl rfl ?_
            refine g_iload X dL_come_266 6 rfl rfl ?_
            refine g_if_lt X dL_come_268 383 (by decide) rfl (fun h268 => ?_) (fun h268 => absurd h268 (by decide))
            refine g_iload X dL_come_383 1 rfl rfl ?_
            refine g_iload X dL_come_385 5 rfl rfl ?_
            refine g_bipush (v := (10 : Int32)) X dL_come_387 (by decide) rfl ?_
            refine g_irem X dL_come_389 (by decide) rfl ?_
            refine g_topi (y := nI ((10 * i9 + r9) % 10)) (nI_rem (a := (10 * i9 + r9)) (b := 10) (by omega) (by omega)) ?_
            refine g_topi ((show nI ((10 * i9 + r9) % 10) = nI r9 from by rw [show (10 * i9 + r9) % 10 = r9 from by omega])) ?_
            refine g_icmp_ne X dL_come_390 433 (by decide) rfl (fun h390 => absurd rfl h390) (fun h390 => ?_)
            refine g_aload_n X dL_come_393 rfl 13 rfl rfl ?_
            refine g_iconst (v := (5 : Int32)) X dL_come_394 (by decide) rfl ?_
            refine g_callVRX (w0 := []) (n := 1) (As := [_]) (rest := []) X (c_X6_count l D a fA naA wA td vl L pt fl kd kpA (fqa pqA) (fqa ps) (tlW D pqA ps) mk n b hWA hNRA _) gL_come_X6_count rfl (by decide +kernel) ⟨Nat.le_of_ble_eq_true rfl, Nat.le_of_ble_eq_true rfl⟩ 20 rfl rfl rfl rfl rfl (Nat.le_of_ble_eq_true rfl) dL_come_395 ⟨Nat.le_of_ble_eq_true rfl, Nat.le_of_ble_eq_true rfl⟩ rfl (fun v hv => ?_)
            obtain rfl := hv
            refine g_st (st' := [_]) rfl ?_
            refine g_topi (oC5) ?_
            refine g_topi (h79) ?_
            refine g_iload X dL_come_398 10 rfl rfl ?_
            refine g_icmp_ne X dL_come_400 433 (by decide) rfl (fun h400 => absurd rfl h400) (fun h400 => ?_)
            refine g_aload_n X dL_come_403 rfl 13 rfl rfl ?_
            refine g_bipush (v := (6 : Int32)) X dL_come_404 (by decide) rfl ?_
            refine g_callVRX (w0 := []) (n := 1) (As := [_]) (rest := []) X (c_X6_count l D a fA naA wA td vl L pt fl kd kpA (fqa pqA) (fqa ps) (tlW D pqA ps) mk n b hWA hNRA _) gL_come_X6_count rfl (by decide +kernel) ⟨Nat.le_of_ble_eq_true rfl, Nat.le_of_ble_eq_true rfl⟩ 20 rfl rfl rfl rfl rfl (Nat.le_of_ble_eq_true rfl) dL_come_406 ⟨Nat.le_of_ble_eq_true rfl, Nat.le_of_ble_eq_true rfl⟩ rfl (fun v hv => ?_)
            obtain rfl := hv
            refine g_st (st' := [_]) rfl ?_
            refine g_topi (oC6) ?_
            refine g_topi (h80) ?_
            refine g_iload X dL_come_409 9 rfl rfl ?_
            refine g_iload X dL_come_411 5 rfl rfl ?_
            refine g_bipush (v := (10 : Int32)) X dL_come_413 (by decide) rfl ?_
            refine g_idiv X dL_come_415 (by decide) rfl ?_
            refine g_topi (y := nI ((10 * i9 + r9) / 10)) (nI_div (a := (10 * i9 + r9)) (b := 10) (by omega) (by omega)) ?_
            refine g_topi ((show nI ((10 * i9 + r9) / 10) = nI i9 from by rw [show (10 * i9 + r9) / 10 = i9 from by omega])) ?_
            refine g_iadd X dL_come_416 rfl ?_
            refine g_icmp_ne X dL_come_417 433 (by decide) rfl (fun h417 => absurd rfl h417) (fun h417 => ?_)
            refine g_aload_n X dL_come_420 rfl 13 rfl rfl ?_
            refine g_iload X dL_come_421 1 rfl rfl ?_
            refine g_callVRX (w0 := []) (n := 1) (As := [_]) (rest := []) X (c_X6_ended l D a fA naA wA td vl L pt fl kd kpA (fqa pqA) (fqa ps) (tlW D pqA ps) mk n b hWA hNRA _) gL_come_X6_ended rfl (by decide +kernel) ⟨Nat.le_of_ble_eq_true rfl, Nat.le_of_ble_eq_true rfl⟩ 20 rfl rfl rfl rfl rfl (Nat.le_of_ble_eq_true rfl) dL_come_423 ⟨Nat.le_of_ble_eq_true rfl, Nat.le_of_ble_eq_true rfl⟩ rfl (fun v hv => ?_)
            obtain rfl := hv
            refine g_st (st' := [_]) rfl ?_
            refine g_topi (oEn (r := r9) (by omega)) ?_
            refine g_topi (h83) ?_
            refine g_iload X dL_come_426 4 rfl rfl ?_
            refine g_iconst (v := (1 : Int32)) X dL_come_428 (by decide) rfl ?_
            refine g_iadd X dL_come_429 rfl ?_
            refine g_icmp_eq X dL_come_430 435 (by decide) rfl (fun h430 => ?_) (fun h430 => absurd rfl h430)
            refine g_iload X dL_come_435 1 rfl rfl ?_
            refine g_if_le X dL_come_437 467 (by decide) rfl (fun h437 => absurd (nj_le (a := r9) (b := 0) (by omega) (by omega) h437) (by omega)) (fun h437 => ?_)
            have i437 := nj_nle (a := r9) (b := 0) (by omega) (by omega) h437
            refine g_aload_n X dL_come_440 rfl 13 rfl rfl ?_
            refine g_iconst (v := (2 : Int32)) X dL_come_441 (by decide) rfl ?_
            refine g_callVRX (w0 := []) (n := 1) (As := [_]) (rest := []) X (c_X6_count l D a fA naA wA td vl L pt fl kd kpA (fqa pqA) (fqa ps) (tlW D pqA ps) mk n b hWA hNRA _) gL_come_X6_count rfl (by decide +kernel) ⟨Nat.le_of_ble_eq_true rfl, Nat.le_of_ble_eq_true rfl⟩ 20 rfl rfl rfl rfl rfl (Nat.le_of_ble_eq_true rfl) dL_come_442 ⟨Nat.le_of_ble_eq_true rfl, Nat.le_of_ble_eq_true rfl⟩ rfl (fun v hv => ?_)
            obtain rfl := hv
            refine g_st (st' := [_]) rfl ?_
            refine g_topi (oC2.trans hn8A) ?_
            refine g_iload X dL_come_445 0 rfl rfl ?_
            refine g_icmp_ne X dL_come_447 465 (by decide) rfl (fun h447 => absurd rfl h447) (fun h447 => ?_)
            refine g_aload_n X dL_come_450 rfl 13 rfl rfl ?_
            refine g_bipush (v := (8 : Int32)) X dL_come_451 (by decide) rfl ?_
            refine g_callVRX (w0 := []) (n := 1) (As := [_]) (rest := []) X (c_X6_count l D a fA naA wA td vl L pt fl kd kpA (fqa pqA) (fqa ps) (tlW D pqA ps) mk n b hWA hNRA _) gL_come_X6_count rfl (by decide +kernel) ⟨Nat.le_of_ble_eq_true rfl, Nat.le_of_ble_eq_true rfl⟩ 20 rfl rfl rfl rfl rfl (Nat.le_of_ble_eq_true rfl) dL_come_453 ⟨Nat.le_of_ble_eq_true rfl, Nat.le_of_ble_eq_true rfl⟩ rfl (fun v hv => ?_)
            obtain rfl := hv
            refine g_st (st' := [_]) rfl ?_
            refine g_topi (oC8) ?_
            refine g_topi (h82) ?_
            refine g_iload X dL_come_456 2 rfl rfl ?_
            refine g_icmp_ne X dL_come_458 465 (by decide) rfl (fun h458 => absurd rfl h458) (fun h458 => ?_)
            refine g_iconst (v := (1 : Int32)) X dL_come_461 (by decide) rfl ?_
            refine g_goto X dL_come_462 466 (by decide) ?_
            refine g_retW X hr (by first | rfl | exact b2i_nar _) dL_come_466 hAe ?_
            exact ⟨rfl, fA, naA, wA, td, vl, L, pt, fl, kd, kpA, pqA, ⟨⟨_, _, _, hWA⟩, ⟨_, hNRA, hn8A⟩, hFA, hSA, hL, hch, hkpA, _, hHLA⟩, hADA, rfl⟩
      · have hwf2 := hwf
        rw [hwp] at hwf
        refine g_aload_n X dL_come_119 rfl 7 rfl rfl ?_
        refine g_iload_n X dL_come_120 rfl 8 rfl rfl ?_
        refine g_iload_n X dL_come_121 rfl 9 rfl rfl ?_
        refine g_iload_n X dL_come_122 rfl 10 rfl rfl ?_
        refine g_callSRX (w0 := []) (n := 4) (As := [_, _, _, _]) (rest := []) X (c_L_walk l D a f na w td vl L pt fl kd kp (fqa pq) (fqa ps) (tlW D pq ps) mk n b hW hNR g d (by omega) (by omega) (nI nd)) gL_come_L_walk rfl (by decide +kernel) ⟨Nat.le_of_ble_eq_true rfl, Nat.le_of_ble_eq_true rfl⟩ rfl rfl rfl (Nat.le_of_ble_eq_true rfl) dL_come_123 ⟨Nat.le_of_ble_eq_true rfl, Nat.le_of_ble_eq_true rfl⟩ rfl (fun v hv => ?_)
        obtain rfl := hv
        refine g_st (st' := [_]) rfl ?_
        obtain ⟨⟨r9, hr7, er9⟩, hi41⟩ := wlk_le f g d (nI nd)
        obtain ⟨i9, ei9⟩ : ∃ i9, (wlk f g d (nI nd)).2 = i9 := ⟨_, rfl⟩
        rw [ei9] at hi41
        refine g_topi ((show lwk f g d (nI nd) = nI (10 * i9 + r9) from by unfold lwk; rw [er9, ei9, nI_add]; congr 1; omega)) ?_
        refine g_istore X [(11, _), (10, _), (9, _), (8, _), (7, _), (6, _), (5, _), (4, _), (0, _), (1, _), (2, _), (3, _)] dL_come_126 (by decide) rfl rfl ?_
        refine g_lve [(11, .int (nI (10 * i9 + r9))), (10, .int (nI j)), (9, .int (0)), (8, .int (nI n)), (7, .int (f 80)), (6, .int (f 79)), (5, .int (f 78)), (4, .int (f 77)), (0, .ref (a 19)), (1, .int (nI g)), (2, .int (nI d)), (3, .int (nI nd))] (by rw [hwf2]; rfl) ?_
        refine g_aload_n X dL_come_128 rfl 8 rfl rfl ?_
        refine g_iload X dL_come_129 1 rfl rfl ?_
        refine g_if_lt X dL_come_131 138 (by decide) rfl (fun h131 => absurd h131 (nI_pos (by omega))) (fun h131 => ?_)
        have i131 := nj_nlt (a := j) (b := 0) (by omega) (by omega) h131
        refine g_iconst (v := (0 : Int32)) X dL_come_134 (by decide) rfl ?_
        refine g_goto X dL_come_135 143 (by decide) ?_
        refine g_callVRX (w0 := []) (n := 1) (As := [_]) (rest := []) X (c_X6_ended l D a f na w td vl L pt fl kd kp (fqa pq) (fqa ps) (tlW D pq ps) mk n b hW hNR _) gL_come_X6_ended rfl (by decide +kernel) ⟨Nat.le_of_ble_eq_true rfl, Nat.le_of_ble_eq_true rfl⟩ 20 rfl rfl rfl rfl rfl (Nat.le_of_ble_eq_true rfl) dL_come_143 ⟨Nat.le_of_ble_eq_true rfl, Nat.le_of_ble_eq_true rfl⟩ rfl (fun v hv => ?_)
        obtain rfl := hv
        refine g_st (st' := [_]) rfl ?_
        refine g_topi (oEn (r := 0) (by omega)) ?_
        refine g_istore X [(12, _), (11, _), (10, _), (9, _), (8, _), (7, _), (6, _), (5, _), (4, _), (0, _), (1, _), (2, _), (3, _)] dL_come_146 (by decide) rfl rfl ?_
        refine g_aload_n X dL_come_148 rfl 9 rfl rfl ?_
        refine g_bipush (v := (7 : Int32)) X dL_come_149 (by decide) rfl ?_
        refine g_callVRX (w0 := []) (n := 1) (As := [_]) (rest := []) X (c_X6_count l D a f na w td vl L pt fl kd kp (fqa pq) (fqa ps) (tlW D pq ps) mk n b hW hNR _) gL_come_X6_count rfl (by decide +kernel) ⟨Nat.le_of_ble_eq_true rfl, Nat.le_of_ble_eq_true rfl⟩ 20 rfl rfl rfl rfl rfl (Nat.le_of_ble_eq_true rfl) dL_come_151 ⟨Nat.le_of_ble_eq_true rfl, Nat.le_of_ble_eq_true rfl⟩ rfl (fun v hv => ?_)
        obtain rfl := hv
        refine g_st (st' := [_]) rfl ?_
        refine g_topi (oC7) ?_
        refine g_istore X [(13, _), (12, _), (11, _), (10, _), (9, _), (8, _), (7, _), (6, _), (5, _), (4, _), (0, _), (1, _), (2, _), (3, _)] dL_come_154 (by decide) rfl rfl ?_
        refine g_aload_n X dL_come_156 rfl 10 rfl rfl ?_
        refine g_bipush (v := (8 : Int32)) X dL_come_157 (by decide) rfl ?_
        refine g_callVRX (w0 := []) (n := 1) (As := [_]) (rest := []) X (c_X6_count l D a f na w td vl L pt fl kd kp (fqa pq) (fqa ps) (tlW D pq ps) mk n b hW hNR _) gL_come_X6_count rfl (by decide +kernel) ⟨Nat.le_of_ble_eq_true rfl, Nat.le_of_ble_eq_true rfl⟩ 20 rfl rfl rfl rfl rfl (Nat.le_of_ble_eq_true rfl) dL_come_159 ⟨Nat.le_of_ble_eq_true rfl, Nat.le_of_ble_eq_true rfl⟩ rfl (fun v hv => ?_)
        obtain rfl := hv
        refine g_st (st' := [_]) rfl ?_
        refine g_topi (oC8) ?_
        refine g_istore X [(14, _), (13, _), (12, _), (11, _), (10, _), (9, _), (8, _), (7, _), (6, _), (5, _), (4, _), (0, _), (1, _), (2, _), (3, _)] dL_come_162 (by decide) rfl rfl ?_
        refine g_aload_n X dL_come_164 rfl 11 rfl rfl ?_
        refine g_iload_n X dL_come_165 rfl 12 rfl rfl ?_
        refine g_iload_n X dL_come_166 rfl 13 rfl rfl ?_
        refine g_iload_n X dL_come_167 rfl 14 rfl rfl ?_
        refine g_iconst (v := (0 : Int32)) X dL_come_168 (by decide) rfl ?_
        refine g_callVXs (n := 4) (As := [_, _, _, _]) (rest := []) X hAg rfl (c_X6_walk l D a f na w td vl L pt fl kd kp (fqa pq) (fqa ps) (tlW D pq ps) mk n b hW hNR _ _ _ _) gL_come_X6_walk rfl (by decide +kernel) ⟨Nat.le_of_ble_eq_true rfl, Nat.le_of_ble_eq_true rfl⟩ 20 rfl rfl rfl rfl (Nat.le_of_ble_eq_true rfl) dL_come_169 ⟨Nat.le_of_ble_eq_true rfl, Nat.le_of_ble_eq_true rfl⟩ rfl (fun v w9 hv => ?_)
        obtain ⟨rfl, w1, rfl⟩ := hv
        refine ⟨AD.rf rfl, ?_⟩
        refine g_st (st' := [_]) rfl ?_
        refine g_topi (oWk0 (g := g) (d := d) (e := nd) hg6 hd10 he12) ?_
        refine g_topi (er9) ?_
        refine g_iload X dL_come_172 3 rfl rfl ?_
        refine g_bipush (v := (10 : Int32)) X dL_come_174 (by decide) rfl ?_
        refine g_irem X dL_come_176 (by decide) rfl ?_
        refine g_topi (y := nI ((10 * i9 + r9) % 10)) (nI_rem (a := (10 * i9 + r9)) (b := 10) (by omega) (by omega)) ?_
        refine g_topi ((show nI ((10 * i9 + r9) % 10) = nI r9 from by rw [show (10 * i9 + r9) % 10 = r9 from by omega])) ?_
        refine g_icmp_ne X dL_come_177 196 (by decide) rfl (fun h177 => absurd rfl h177) (fun h177 => ?_)
        refine g_aload_n X dL_come_180 rfl 11 rfl rfl ?_
        refine g_iload_n X dL_come_181 rfl 12 rfl rfl ?_
        refine g_iload_n X dL_come_182 rfl 13 rfl rfl ?_
        refine g_iload_n X dL_come_183 rfl 14 rfl rfl ?_
        refine g_iconst (v := (1 : Int32)) X dL_come_184 (by decide) rfl ?_
        refine g_callVXs (n := 4) (As := [_, _, _, _]) (rest := []) X hAg rfl (c_X6_walk l D a f na w1 td vl L pt fl kd kp (fqa pq) (fqa ps) (tlW D pq ps) mk n b hW hNR _ _ _ _) gL_come_X6_walk rfl (by decide +kernel) ⟨Nat.le_of_ble_eq_true rfl, Nat.le_of_ble_eq_true rfl⟩ 20 rfl rfl rfl rfl (Nat.le_of_ble_eq_true rfl) dL_come_185 ⟨Nat.le_of_ble_eq_true rfl, Nat.le_of_ble_eq_true rfl⟩ rfl (fun v w9 hv => ?_)
        obtain ⟨rfl, w2, rfl⟩ := hv
        refine ⟨AD.rf rfl, ?_⟩
        refine g_st (st' := [_]) rfl ?_
        refine g_topi (oWk1 (g := g) (d := d) (e := nd) hg6 hd10 he12) ?_
        refine g_topi ((by rw [ei9])) ?_
        refine g_iload X dL_come_188 3 rfl rfl ?_
        refine g_bipush (v := (10 : Int32)) X dL_come_190 (by decide) rfl ?_
        refine g_idiv X dL_come_192 (by decide) rfl ?_
        refine g_topi (y := nI ((10 * i9 + r9) / 10)) (nI_div (a := (10 * i9 + r9)) (b := 10) (by omega) (by omega)) ?_
        refine g_topi ((show nI ((10 * i9 + r9) / 10) = nI i9 from by rw [show (10 * i9 + r9) / 10 = i9 from by omega])) ?_
        refine g_icmp_eq X dL_come_193 198 (by decide) rfl (fun h193 => ?_) (fun h193 => absurd rfl h193)
        refine g_aload_n X dL_come_198 rfl 11 rfl rfl ?_
        refine g_iload_n X dL_come_199 rfl 12 rfl rfl ?_
        refine g_iload_n X dL_come_200 rfl 13 rfl rfl ?_
        refine g_iload_n X dL_come_201 rfl 14 rfl rfl ?_
        refine g_callVXs (n := 3) (As := [_, _, _]) (rest := []) X hAg rfl (c_X6_come l D a f na w2 td vl L pt fl kd kp pq ps mk n b hW hNR hF hkp hHL.hq _ _ _) gL_come_X6_come rfl (by decide +kernel) ⟨Nat.le_of_ble_eq_true rfl, Nat.le_of_ble_eq_true rfl⟩ 20 rfl rfl rfl rfl (Nat.le_of_ble_eq_true rfl) dL_come_202 ⟨Nat.le_of_ble_eq_true rfl, Nat.le_of_ble_eq_true rfl⟩ rfl (fun v w9 hv => ?_)
        obtain ⟨rfl, fA, naA, wA, kpA, pqA, efA, hNA, hAA, hkpA, hHLA, ekA, rfl⟩ := ch_out hv hkp hHL hF ⟨_, hNR, hn8⟩
        have hADA := hAA
        refine ⟨hAA, ?_⟩
        refine g_st (st' := [_]) rfl ?_
        obtain ⟨hrx, hWA, hSA, h77, h78, h79, h80, h81, h3, h83, hk1, hk0⟩ := come_A hW hS hg6 hd10 he12 hwf hj hm efA
        refine g_topi (hrx) ?_
        have hNRA := hNA.to hWA
        have hFA : FB fA := by rw [efA]; exact come_fb ⟨mk, n, b, hW⟩ hF
        obtain ⟨hmkA, hm40A, hn8A, hb0A, hb0A1, hb0A8, hn8Ab, hstA, hnoA, howA, hdoA, hb0Aa, hb0Ac, hb0Ad, hb0Az⟩ := id hWA
        have hm8A : n ≤ 8 := by omega
        obtain ⟨eN1A, eN2A, -⟩ := hWA.N
        refine g_istore X [(15, _), (14, _), (13, _), (12, _), (11, _), (10, _), (9, _), (8, _), (7, _), (6, _), (5, _), (4, _), (0, _), (1, _), (2, _), (3, _)] dL_come_205 (by decide) rfl rfl ?_
        refine g_aload_n X dL_come_207 rfl 12 rfl rfl ?_
        refine g_iconst (v := (3 : Int32)) X dL_come_208 (by decide) rfl ?_
        refine g_callVRX (w0 := []) (n := 1) (As := [_]) (rest := []) X (c_X6_count l D a fA naA wA td vl L pt fl kd kpA (fqa pqA) (fqa ps) (tlW D pqA ps) mk n b hWA hNRA _) gL_come_X6_count rfl (by decide +kernel) ⟨Nat.le_of_ble_eq_true rfl, Nat.le_of_ble_eq_true rfl⟩ 20 rfl rfl rfl rfl rfl (Nat.le_of_ble_eq_true rfl) dL_come_209 ⟨Nat.le_of_ble_eq_true rfl, Nat.le_of_ble_eq_true rfl⟩ rfl (fun v hv => ?_)
        obtain rfl := hv
        refine g_st (st' := [_]) rfl ?_
        refine g_topi (oC3) ?_
        refine g_topi (h77) ?_
        refine g_iload_n X dL_come_212 rfl 13 rfl rfl ?_
        refine g_icmp_ne X dL_come_213 251 (by decide) rfl (fun h213 => absurd rfl h213) (fun h213 => ?_)
        refine g_aload_n X dL_come_216 rfl 12 rfl rfl ?_
        refine g_iconst (v := (4 : Int32)) X dL_come_217 (by decide) rfl ?_
        refine g_callVRX (w0 := []) (n := 1) (As := [_]) (rest := []) X (c_X6_count l D a fA naA wA td vl L pt fl kd kpA (fqa pqA) (fqa ps) (tlW D pqA ps) mk n b hWA hNRA _) gL_come_X6_count rfl (by decide +kernel) ⟨Nat.le_of_ble_eq_true rfl, Nat.le_of_ble_eq_true rfl⟩ 20 rfl rfl rfl rfl rfl (Nat.le_of_ble_eq_true rfl) dL_come_218 ⟨Nat.le_of_ble_eq_true rfl, Nat.le_of_ble_eq_true rfl⟩ rfl (fun v hv => ?_)
        obtain rfl := hv
        refine g_st (st' := [_]) rfl ?_
        refine g_topi (oC4) ?_
        refine g_topi (h78) ?_
        refine g_iload X dL_come_221 10 rfl rfl ?_
        refine g_iconst (v := (1 : Int32)) X dL_come_223 (by decide) rfl ?_
        refine g_iadd X dL_come_224 rfl ?_
        refine g_icmp_ne X dL_come_225 251 (by decide) rfl (fun h225 => absurd rfl h225) (fun h225 => ?_)
        refine g_aload_n X dL_come_228 rfl 12 rfl rfl ?_
        refine g_bipush (v := (7 : Int32)) X dL_come_229 (by decide) rfl ?_
        refine g_callVRX (w0 := []) (n := 1) (As := [_]) (rest := []) X (c_X6_count l D a fA naA wA td vl L pt fl kd kpA (fqa pqA) (fqa ps) (tlW D pqA ps) mk n b hWA hNRA _) gL_come_X6_count rfl (by decide +kernel) ⟨Nat.le_of_ble_eq_true rfl, Nat.le_of_ble_eq_true rfl⟩ 20 rfl rfl rfl rfl rfl (Nat.le_of_ble_eq_true rfl) dL_come_231 ⟨Nat.le_of_ble_eq_true rfl, Nat.le_of_ble_eq_true rfl⟩ rfl (fun v hv => ?_)
        obtain rfl := hv
        refine g_st (st' := [_]) rfl ?_
        refine g_topi (oC7) ?_
        refine g_iload X dL_come_234 2 rfl rfl ?_
        refine g_iload X dL_come_236 6 rfl rfl ?_
        refine g_if_eq X dL_come_238 246 (by decide) rfl (fun h238 => ?_) (fun h238 => absurd h238 (by decide))
        refine g_iconst (v := (0 : Int32)) X dL_come_246 (by decide) rfl ?_
        refine g_iadd X dL_come_247 rfl ?_
        refine g_icmp_eq X dL_come_248 253 (by decide) rfl (fun h248 => ?_) (fun h248 => absurd (h81.trans (by first | rfl | (rw [Int32.add_zero]; done))) h248)
        refine g_iload X dL_come_253 6 rfl rfl ?_
        refine g_if_eq X dL_come_255 262 (by decide) rfl (fun h255 => ?_) (fun h255 => absurd h255 (by decide))
        refine g_iload X dL_come_262 7 rfl rfl ?_
        refine g_istore X [(16, _), (15, _), (14, _), (13, _), (12, _), (11, _), (10, _), (9, _), (8, _), (7, _), (6, _), (5, _), (4, _), (0, _), (1, _), (2, _), (3, _)] dL_come_264 (by decide) rfl rfl ?_
        refine g_iload X dL_come_266 6 rfl rfl ?_
        refine g_if_lt X dL_come_268 383 (by decide) rfl (fun h268 => absurd h268 (nI_pos (by omega))) (fun h268 => ?_)
        have i268 := nj_nlt (a := j) (b := 0) (by omega) (by omega) h268
        refine g_aload_n X dL_come_271 rfl 13 rfl rfl ?_
        refine g_bipush (v := (12 : Int32)) X dL_come_272 (by decide) rfl ?_
        refine g_callVRX (w0 := []) (n := 1) (As := [_]) (rest := []) X (c_X6_count l D a fA naA wA td vl L pt fl kd kpA (fqa pqA) (fqa ps) (tlW D pqA ps) mk n b hWA hNRA _) gL_come_X6_count rfl (by decide +kernel) ⟨Nat.le_of_ble_eq_true rfl, Nat.le_of_ble_eq_true rfl⟩ 20 rfl rfl rfl rfl rfl (Nat.le_of_ble_eq_true rfl) dL_come_274 ⟨Nat.le_of_ble_eq_true rfl, Nat.le_of_ble_eq_true rfl⟩ rfl (fun v hv => ?_)
        obtain rfl := hv
        refine g_st (st' := [_]) rfl ?_
        refine g_topi (oC12) ?_
        refine g_topi (h3) ?_
        refine g_iconst (v := (1 : Int32)) X dL_come_277 (by decide) rfl ?_
        refine g_icmp_ne X dL_come_278 288 (by decide) rfl (fun h278 => ?_) (fun h278 => ?_)
        · refine g_iload X dL_come_288 6 rfl rfl ?_
          refine g_istore X [(17, _), (16, _), (15, _), (14, _), (13, _), (12, _), (11, _), (10, _), (9, _), (8, _), (7, _), (6, _), (5, _), (4, _), (0, _), (1, _), (2, _), (3, _)] dL_come_290 (by decide) rfl rfl ?_
          refine g_iload X dL_come_292 2 rfl rfl ?_
          refine g_if_ne X dL_come_294 381 (by decide) rfl (fun h294 => absurd h294 (by decide)) (fun h294 => ?_)
          refine g_aload_n X dL_come_297 rfl 14 rfl rfl ?_
          refine g_iconst (v := (5 : Int32)) X dL_come_298 (by decide) rfl ?_
          refine g_callVRX (w0 := []) (n := 1) (As := [_]) (rest := []) X (c_X6_count l D a fA naA wA td vl L pt fl kd kpA (fqa pqA) (fqa ps) (tlW D pqA ps) mk n b hWA hNRA _) gL_come_X6_count rfl (by decide +kernel) ⟨Nat.le_of_ble_eq_true rfl, Nat.le_of_ble_eq_true rfl⟩ 20 rfl rfl rfl rfl rfl (Nat.le_of_ble_eq_true rfl) dL_come_299 ⟨Nat.le_of_ble_eq_true rfl, Nat.le_of_ble_eq_true rfl⟩ rfl (fun v hv => ?_)
          obtain rfl := hv
          refine g_st (st' := [_]) rfl ?_
          refine g_topi (oC5) ?_
          refine g_topi (h79) ?_
          refine g_iload X dL_come_302 11 rfl rfl ?_
          refine g_iconst (v := (1 : Int32)) X dL_come_304 (by decide) rfl ?_
          refine g_iadd X dL_come_305 rfl ?_
          refine g_icmp_ne X dL_come_306 381 (by decide) rfl (fun h306 => absurd rfl h306) (fun h306 => ?_)
          refine g_aload_n X dL_come_309 rfl 14 rfl rfl ?_
          refine g_bipush (v := (6 : Int32)) X dL_come_310 (by decide) rfl ?_
          refine g_callVRX (w0 := []) (n := 1) (As := [_]) (rest := []) X (c_X6_count l D a fA naA wA td vl L pt fl kd kpA (fqa pqA) (fqa ps) (tlW D pqA ps) mk n b hWA hNRA _) gL_come_X6_count rfl (by decide +kernel) ⟨Nat.le_of_ble_eq_true rfl, Nat.le_of_ble_eq_true rfl⟩ 20 rfl rfl rfl rfl rfl (Nat.le_of_ble_eq_true rfl) dL_come_312 ⟨Nat.le_of_ble_eq_true rfl, Nat.le_of_ble_eq_true rfl⟩ rfl (fun v hv => ?_)
          obtain rfl := hv
          refine g_st (st' := [_]) rfl ?_
          refine g_topi (oC6) ?_
          refine g_topi (h80) ?_
          refine g_iload X dL_come_315 10 rfl rfl ?_
          refine g_iconst (v := (1 : Int32)) X dL_come_317 (by decide) rfl ?_
          refine g_iadd X dL_come_318 rfl ?_
          refine g_icmp_ne X dL_come_319 381 (by decide) rfl (fun h319 => absurd rfl h319) (fun h319 => ?_)
          refine g_aload_n X dL_come_322 rfl 14 rfl rfl ?_
          refine g_iconst (v := (2 : Int32)) X dL_come_323 (by decide) rfl ?_
          refine g_callVRX (w0 := []) (n := 1) (As := [_]) (rest := []) X (c_X6_count l D a fA naA wA td vl L pt fl kd kpA (fqa pqA) (fqa ps) (tlW D pqA ps) mk n b hWA hNRA _) gL_come_X6_count rfl (by decide +kernel) ⟨Nat.le_of_ble_eq_true rfl, Nat.le_of_ble_eq_true rfl⟩ 20 rfl rfl rfl rfl rfl (Nat.le_of_ble_eq_true rfl) dL_come_324 ⟨Nat.le_of_ble_eq_true rfl, Nat.le_of_ble_eq_true rfl⟩ rfl (fun v hv => ?_)
          obtain rfl := hv
          refine g_st (st' := [_]) rfl ?_
          refine g_topi (oC2.trans hn8A) ?_
          refine g_iload X dL_come_327 1 rfl rfl ?_
          refine g_icmp_ne X dL_come_329 381 (by decide) rfl (fun h329 => absurd rfl h329) (fun h329 => ?_)
          refine g_aload_n X dL_come_332 rfl 14 rfl rfl ?_
          refine g_iload X dL_come_333 0 rfl rfl ?_
          refine g_iconst (v := (0 : Int32)) X dL_come_335 (by decide) rfl ?_
          refine g_callVRX (w0 := []) (n := 2) (As := [_, _]) (rest := []) X (c_X6_note l D a fA naA wA td vl L pt fl kd kpA (fqa pqA) (fqa ps) (tlW D pqA ps) mk n b hWA hNRA _ _) gL_come_X6_note rfl (by decide +kernel) ⟨Nat.le_of_ble_eq_true rfl, Nat.le_of_ble_eq_true rfl⟩ 20 rfl rfl rfl rfl rfl (Nat.le_of_ble_eq_true rfl) dL_come_336 ⟨Nat.le_of_ble_eq_true rfl, Nat.le_of_ble_eq_true rfl⟩ rfl (fun v hv => ?_)
          obtain rfl := hv
          refine g_st (st' := [_]) rfl ?_
          refine g_topi (oNt (k := j) 0 eN2A (by omega) hm8A rfl (by decide)) ?_
          refine g_topi ((hk0 h278).1) ?_
          refine g_iload_n X dL_come_339 rfl 15 rfl rfl ?_
          refine g_icmp_ne X dL_come_340 381 (by decide) rfl (fun h340 => absurd rfl h340) (fun h340 => ?_)
          refine g_aload_n X dL_come_343 rfl 14 rfl rfl ?_
          refine g_iload X dL_come_344 0 rfl rfl ?_
          refine g_iconst (v := (1 : Int32)) X dL_come_346 (by decide) rfl ?_
          refine g_callVRX (w0 := []) (n := 2) (As := [_, _]) (rest := []) X (c_X6_note l D a fA naA wA td vl L pt fl kd kpA (fqa pqA) (fqa ps) (tlW D pqA ps) mk n b hWA hNRA _ _) gL_come_X6_note rfl (by decide +kernel) ⟨Nat.le_of_ble_eq_true rfl, Nat.le_of_ble_eq_true rfl⟩ 20 rfl rfl rfl rfl rfl (Nat.le_of_ble_eq_true rfl) dL_come_347 ⟨Nat.le_of_ble_eq_true rfl, Nat.le_of_ble_eq_true rfl⟩ rfl (fun v hv => ?_)
          obtain rfl := hv
          refine g_st (st' := [_]) rfl ?_
          refine g_topi (oNt (k := j) 1 eN2A (by omega) hm8A rfl (by decide)) ?_
          refine g_topi ((hk0 h278).2.1) ?_
          refine g_iload_n X dL_come_350 rfl 16 rfl rfl ?_
          refine g_icmp_ne X dL_come_351 381 (by decide) rfl (fun h351 => absurd rfl h351) (fun h351 => ?_)
          refine g_aload_n X dL_come_354 rfl 14 rfl rfl ?_
          refine g_iload X dL_come_355 0 rfl rfl ?_
          refine g_iconst (v := (2 : Int32)) X dL_come_357 (by decide) rfl ?_
          refine g_callVRX (w0 := []) (n := 2) (As := [_, _]) (rest := []) X (c_X6_note l D a fA naA wA td vl L pt fl kd kpA (fqa pqA) (fqa ps) (tlW D pqA ps) mk n b hWA hNRA _ _) gL_come_X6_note rfl (by decide +kernel) ⟨Nat.le_of_ble_eq_true rfl, Nat.le_of_ble_eq_true rfl⟩ 20 rfl rfl rfl rfl rfl (Nat.le_of_ble_eq_true rfl) dL_come_358 ⟨Nat.le_of_ble_eq_true rfl, Nat.le_of_ble_eq_true rfl⟩ rfl (fun v hv => ?_)
          obtain rfl := hv
          refine g_st (st' := [_]) rfl ?_
          refine g_topi (oNt (k := j) 2 eN2A (by omega) hm8A rfl (by decide)) ?_
          refine g_topi ((hk0 h278).2.2) ?_
          refine g_iload_n X dL_come_361 rfl 17 rfl rfl ?_
          refine g_icmp_ne X dL_come_362 381 (by decide) rfl (fun h362 => absurd rfl h362) (fun h362 => ?_)
          refine g_aload_n X dL_come_365 rfl 14 rfl rfl ?_
          refine g_iconst (v := (0 : Int32)) X dL_come_366 (by decide) rfl ?_
          refine g_callVRX (w0 := []) (n := 1) (As := [_]) (rest := []) X (c_X6_ended l D a fA naA wA td vl L pt fl kd kpA (fqa pqA) (fqa ps) (tlW D pqA ps) mk n b hWA hNRA _) gL_come_X6_ended rfl (by decide +kernel) ⟨Nat.le_of_ble_eq_true rfl, Nat.le_of_ble_eq_true rfl⟩ 20 rfl rfl rfl rfl rfl (Nat.le_of_ble_eq_true rfl) dL_come_367 ⟨Nat.le_of_ble_eq_true rfl, Nat.le_of_ble_eq_true rfl⟩ rfl (fun v hv => ?_)
          obtain rfl := hv
          refine g_st (st' := [_]) rfl ?_
          refine g_topi (oEn (r := 0) (by omega)) ?_
          refine g_topi (h83) ?_
          refine g_iload X dL_come_370 5 rfl rfl ?_
          refine g_iconst (v := (1 : Int32)) X dL_come_372 (by decide) rfl ?_
          refine g_iadd X dL_come_373 rfl ?_
          refine g_icmp_ne X dL_come_374 381 (by decide) rfl (fun h374 => absurd rfl h374) (fun h374 => ?_)
          refine g_iconst (v := (1 : Int32)) X dL_come_377 (by decide) rfl ?_
          refine g_goto X dL_come_378 382 (by decide) ?_
          refine g_retW X hr (by first | rfl | exact b2i_nar _) dL_come_382 hAe ?_
          exact ⟨rfl, fA, naA, wA, td, vl, L, pt, fl, kd, kpA, pqA, ⟨⟨_, _, _, hWA⟩, ⟨_, hNRA, hn8A⟩, hFA, hSA, hL, hch, hkpA, _, hHLA⟩, hADA, rfl⟩
        · refine g_iload X dL_come_281 0 rfl rfl ?_
          refine g_iconst (v := (1 : Int32)) X dL_come_283 (by decide) rfl ?_
          refine g_isub X dL_come_284 rfl ?_
          refine g_topi (y := nI (n - 1)) (pk_sub (a := n) (b := 1) (by omega)) ?_
          refine g_goto X dL_come_285 290 (by decide) ?_
          refine g_istore X [(17, _), (16, _), (15, _), (14, _), (13, _), (12, _), (11, _), (10, _), (9, _), (8, _), (7, _), (6, _), (5, _), (4, _), (0, _), (1, _), (2, _), (3, _)] dL_come_290 (by decide) rfl rfl ?_
          refine g_iload X dL_come_292 2 rfl rfl ?_
          refine g_if_ne X dL_come_294 381 (by decide) rfl (fun h294 => absurd h294 (by decide)) (fun h294 => ?_)
          refine g_aload_n X dL_come_297 rfl 14 rfl rfl ?_
          refine g_iconst (v := (5 : Int32)) X dL_come_298 (by decide) rfl ?_
          refine g_callVRX (w0 := []) (n := 1) (As := [_]) (rest := []) X (c_X6_count l D a fA naA wA td vl L pt fl kd kpA (fqa pqA) (fqa ps) (tlW D pqA ps) mk n b hWA hNRA _) gL_come_X6_count rfl (by decide +kernel) ⟨Nat.le_of_ble_eq_true rfl, Nat.le_of_ble_eq_true rfl⟩ 20 rfl rfl rfl rfl rfl (Nat.le_of_ble_eq_true rfl) dL_come_299 ⟨Nat.le_of_ble_eq_true rfl, Nat.le_of_ble_eq_true rfl⟩ rfl (fun v hv => ?_)
          obtain rfl := hv
          refine g_st (st' := [_]) rfl ?_
          refine g_topi (oC5) ?_
          refine g_topi (h79) ?_
          refine g_iload X dL_come_302 11 rfl rfl ?_
          refine g_iconst (v := (1 : Int32)) X dL_come_304 (by decide) rfl ?_
          refine g_iadd X dL_come_305 rfl ?_
          refine g_icmp_ne X dL_come_306 381 (by decide) rfl (fun h306 => absurd rfl h306) (fun h306 => ?_)
          refine g_aload_n X dL_come_309 rfl 14 rfl rfl ?_
          refine g_bipush (v := (6 : Int32)) X dL_come_310 (by decide) rfl ?_
          refine g_callVRX (w0 := []) (n := 1) (As := [_]) (rest := []) X (c_X6_count l D a fA naA wA td vl L pt fl kd kpA (fqa pqA) (fqa ps) (tlW D pqA ps) mk n b hWA hNRA _) gL_come_X6_count rfl (by decide +kernel) ⟨Nat.le_of_ble_eq_true rfl, Nat.le_of_ble_eq_true rfl⟩ 20 rfl rfl rfl rfl rfl (Nat.le_of_ble_eq_true rfl) dL_come_312 ⟨Nat.le_of_ble_eq_true rfl, Nat.le_of_ble_eq_true rfl⟩ rfl (fun v hv => ?_)
          obtain rfl := hv
          refine g_st (st' := [_]) rfl ?_
          refine g_topi (oC6) ?_
          refine g_topi (h80) ?_
          refine g_iload X dL_come_315 10 rfl rfl ?_
          refine g_iconst (v := (1 : Int32)) X dL_come_317 (by decide) rfl ?_
          refine g_iadd X dL_come_318 rfl ?_
          refine g_icmp_ne X dL_come_319 381 (by decide) rfl (fun h319 => absurd rfl h319) (fun h319 => ?_)
          refine g_aload_n X dL_come_322 rfl 14 rfl rfl ?_
          refine g_iconst (v := (2 : Int32)) X dL_come_323 (by decide) rfl ?_
          refine g_callVRX (w0 := []) (n := 1) (As := [_]) (rest := []) X (c_X6_count l D a fA naA wA td vl L pt fl kd kpA (fqa pqA) (fqa ps) (tlW D pqA ps) mk n b hWA hNRA _) gL_come_X6_count rfl (by decide +kernel) ⟨Nat.le_of_ble_eq_true rfl, Nat.le_of_ble_eq_true rfl⟩ 20 rfl rfl rfl rfl rfl (Nat.le_of_ble_eq_true rfl) dL_come_324 ⟨Nat.le_of_ble_eq_true rfl, Nat.le_of_ble_eq_true rfl⟩ rfl (fun v hv => ?_)
          obtain rfl := hv
          refine g_st (st' := [_]) rfl ?_
          refine g_topi (oC2.trans hn8A) ?_
          refine g_iload X dL_come_327 1 rfl rfl ?_
          refine g_icmp_ne X dL_come_329 381 (by decide) rfl (fun h329 => absurd rfl h329) (fun h329 => ?_)
          refine g_aload_n X dL_come_332 rfl 14 rfl rfl ?_
          refine g_iload X dL_come_333 0 rfl rfl ?_
          refine g_iconst (v := (0 : Int32)) X dL_come_335 (by decide) rfl ?_
          refine g_callVRX (w0 := []) (n := 2) (As := [_, _]) (rest := []) X (c_X6_note l D a fA naA wA td vl L pt fl kd kpA (fqa pqA) (fqa ps) (tlW D pqA ps) mk n b hWA hNRA _ _) gL_come_X6_note rfl (by decide +kernel) ⟨Nat.le_of_ble_eq_true rfl, Nat.le_of_ble_eq_true rfl⟩ 20 rfl rfl rfl rfl rfl (Nat.le_of_ble_eq_true rfl) dL_come_336 ⟨Nat.le_of_ble_eq_true rfl, Nat.le_of_ble_eq_true rfl⟩ rfl (fun v hv => ?_)
          obtain rfl := hv
          refine g_st (st' := [_]) rfl ?_
          refine g_topi (oNt (k := (n - 1)) 0 eN2A (by omega) hm8A rfl (by decide)) ?_
          refine g_topi ((hk1 h278).1) ?_
          refine g_iload_n X dL_come_339 rfl 15 rfl rfl ?_
          refine g_icmp_ne X dL_come_340 381 (by decide) rfl (fun h340 => absurd rfl h340) (fun h340 => ?_)
          refine g_aload_n X dL_come_343 rfl 14 rfl rfl ?_
          refine g_iload X dL_come_344 0 rfl rfl ?_
          refine g_iconst (v := (1 : Int32)) X dL_come_346 (by decide) rfl ?_
          refine g_callVRX (w0 := []) (n := 2) (As := [_, _]) (rest := []) X (c_X6_note l D a fA naA wA td vl L pt fl kd kpA (fqa pqA) (fqa ps) (tlW D pqA ps) mk n b hWA hNRA _ _) gL_come_X6_note rfl (by decide +kernel) ⟨Nat.le_of_ble_eq_true rfl, Nat.le_of_ble_eq_true rfl⟩ 20 rfl rfl rfl rfl rfl (Nat.le_of_ble_eq_true rfl) dL_come_347 ⟨Nat.le_of_ble_eq_true rfl, Nat.le_of_ble_eq_true rfl⟩ rfl (fun v hv => ?_)
          obtain rfl := hv
          refine g_st (st' := [_]) rfl ?_
          refine g_topi (oNt (k := (n - 1)) 1 eN2A (by omega) hm8A rfl (by decide)) ?_
          refine g_topi ((hk1 h278).2.1) ?_
          refine g_iload_n X dL_come_350 rfl 16 rfl rfl ?_
          refine g_icmp_ne X dL_come_351 381 (by decide) rfl (fun h351 => absurd rfl h351) (fun h351 => ?_)
          refine g_aload_n X dL_come_354 rfl 14 rfl rfl ?_
          refine g_iload X dL_come_355 0 rfl rfl ?_
          refine g_iconst (v := (2 : Int32)) X dL_come_357 (by decide) rfl ?_
          refine g_callVRX (w0 := []) (n := 2) (As := [_, _]) (rest := []) X (c_X6_note l D a fA naA wA td vl L pt fl kd kpA (fqa pqA) (fqa ps) (tlW D pqA ps) mk n b hWA hNRA _ _) gL_come_X6_note rfl (by decide +kernel) ⟨Nat.le_of_ble_eq_true rfl, Nat.le_of_ble_eq_true rfl⟩ 20 rfl rfl rfl rfl rfl (Nat.le_of_ble_eq_true rfl) dL_come_358 ⟨Nat.le_of_ble_eq_true rfl, Nat.le_of_ble_eq_true rfl⟩ rfl (fun v hv => ?_)
          obtain rfl := hv
          refine g_st (st' := [_]) rfl ?_
          refine g_topi (oNt (k := (n - 1)) 2 eN2A (by omega) hm8A rfl (by decide)) ?_
          refine g_topi ((hk1 h278).2.2) ?_
          refine g_iload_n X dL_come_361 rfl 17 rfl rfl ?_
          refine g_icmp_ne X dL_come_362 381 (by decide) rfl (fun h362 => absurd rfl h362) (fun h362 => ?_)
          refine g_aload_n X dL_come_365 rfl 14 rfl rfl ?_
          refine g_iconst (v := (0 : Int32)) X dL_come_366 (by decide) rfl ?_
          refine g_callVRX (w0 := []) (n := 1) (As := [_]) (rest := []) X (c_X6_ended l D a fA naA wA td vl L pt fl kd kpA (fqa pqA) (fqa ps) (tlW D pqA ps) mk n b hWA hNRA _) gL_come_X6_ended rfl (by decide +kernel) ⟨Nat.le_of_ble_eq_true rfl, Nat.le_of_ble_eq_true rfl⟩ 20 rfl rfl rfl rfl rfl (Nat.le_of_ble_eq_true rfl) dL_come_367 ⟨Nat.le_of_ble_eq_true rfl, Nat.le_of_ble_eq_true rfl⟩ rfl (fun v hv => ?_)
          obtain rfl := hv
          refine g_st (st' := [_]) rfl ?_
          refine g_topi (oEn (r := 0) (by omega)) ?_
          refine g_topi (h83) ?_
          refine g_iload X dL_come_370 5 rfl rfl ?_
          refine g_iconst (v := (1 : Int32)) X dL_come_372 (by decide) rfl ?_
          refine g_iadd X dL_come_373 rfl ?_
          refine g_icmp_ne X dL_come_374 381 (by decide) rfl (fun h374 => absurd rfl h374) (fun h374 => ?_)
          refine g_iconst (v := (1 : Int32)) X dL_come_377 (by decide) rfl ?_
          refine g_goto X dL_come_378 382 (by decide) ?_
          refine g_retW X hr (by first | rfl | exact b2i_nar _) dL_come_382 hAe ?_
          exact ⟨rfl, fA, naA, wA, td, vl, L, pt, fl, kd, kpA, pqA, ⟨⟨_, _, _, hWA⟩, ⟨_, hNRA, hn8A⟩, hFA, hSA, hL, hch, hkpA, _, hHLA⟩, hADA, rfl⟩
    refine g_iconst (v := (0 : Int32)) X dL_come_61 (by decide) rfl ?_
    refine g_istore X [(11, _), (10, _), (9, _), (8, _), (7, _), (6, _), (5, _), (4, _), (0, _), (1, _), (2, _), (3, _)] dL_come_62 (by decide) rfl rfl ?_
    have L64 : ∀ (jj k : Nat) (x : Int32) (hk : k ≤ n) (hj : n - k = jj) (hx : (x = -1 ∧ ∀ j, j < k → wp = false → isNote f (nI g) (nI d) (nI nd) j = false) ∨ (∃ j, j < k ∧ wp = false ∧ isNote f (nI g) (nI d) (nI nd) j = true ∧ x = nI j)), GG p l e (wRoom 6 145 16 340) s m ([.ref (a 19), .int (nI g), .int (nI d), .int (nI nd)] : List Value).toArray below meth c D A 19 false 0 0 (MQ below (wrQ D (wB D a f na w td vl L pt fl kd kp (fqa pq) (fqa ps) (tlW D pq ps)) s.heap.size (lwP D a ps (wB D a f na w td vl L pt fl kd kp (fqa pq) (fqa ps) (tlW D pq ps)) (cr + 1))) ([.ref (a 19), .int (nI g), .int (nI d), .int (nI nd)] : List Value).toArray s 16 340 (va_A (wB D a f na w td vl L pt fl kd kp (fqa pq) (fqa ps) (tlW D pq ps)) s.heap.size)) (wB D a f na w td vl L pt fl kd kp (fqa pq) (fqa ps) (tlW D pq ps)) 64 [(11, .int (nI k)), (10, .int (x)), (9, .int (b2i wp)), (8, .int (nI n)), (7, .int (f 80)), (6, .int (f 79)), (5, .int (f 78)), (4, .int (f 77)), (0, .ref (a 19)), (1, .int (nI g)), (2, .int (nI d)), (3, .int (nI nd))] [] := by
      intro jj
      induction jj using Nat.strongRecOn with
      | _ jj ih =>
      intro k x hk hj hx
      refine g_iload X dL_come_64 0 rfl rfl ?_
      refine g_iload X dL_come_66 3 rfl rfl ?_
      refine g_icmp_ge X dL_come_68 119 (by decide) rfl (fun h68 => ?_) (fun h68 => ?_)
      · have i68 := nj_le (a := n) (b := k) (by omega) (by omega) h68
        refine g_lv [1, 2, 3, 4, 5, 6, 7, 8, 9, 10, 11] [(10, _), (9, _), (8, _), (7, _), (6, _), (5, _), (4, _), (0, _), (1, _), (2, _), (3, _)] rfl ?_
        refine L119 x ?_
        rcases hx with ⟨h1, h2⟩ | ⟨j, h1, h2, h3, h4⟩
        · refine Or.inl ⟨h1, ?_⟩
          cases hwb : wp with
          | true => exact Or.inl rfl
          | false => exact Or.inr (fun j hj => h2 j (by omega) hwb)
        · exact Or.inr ⟨j, by omega, h2, h3, h4⟩
      · have i68 := nj_nle (a := n) (b := k) (by omega) (by omega) h68
        refine g_iload X dL_come_71 2 rfl rfl ?_
        refine g_if_ne X dL_come_73 119 (by decide) rfl (fun h73 => ?_) (fun h73 => ?_)
        · replace h73 := b2i_n0 h73
          refine g_lv [1, 2, 3, 4, 5, 6, 7, 8, 9, 10, 11] [(10, _), (9, _), (8, _), (7, _), (6, _), (5, _), (4, _), (0, _), (1, _), (2, _), (3, _)] rfl ?_
          refine L119 x ?_
          rcases hx with ⟨h1, h2⟩ | ⟨j, h1, h2, h3, h4⟩
          · exact Or.inl ⟨h1, Or.inl h73⟩
          · exact Or.inr ⟨j, by omega, h2, h3, h4⟩
        · replace h73 := b2i_0 h73
          refine g_aload_n X dL_come_76 rfl 8 rfl rfl ?_
          refine g_iload X dL_come_77 0 rfl rfl ?_
          refine g_iconst (v := (0 : Int32)) X dL_come_79 (by decide) rfl ?_
          refine g_callVRX (w0 := []) (n := 2) (As := [_, _]) (rest := []) X (c_X6_note l D a f na w td vl L pt fl kd kp (fqa pq) (fqa ps) (tlW D pq ps) mk n b hW hNR _ _) gL_come_X6_note rfl (by decide +kernel) ⟨Nat.le_of_ble_eq_true rfl, Nat.le_of_ble_eq_true rfl⟩ 20 rfl rfl rfl rfl rfl (Nat.le_of_ble_eq_true rfl) dL_come_80 ⟨Nat.le_of_ble_eq_true rfl, Nat.le_of_ble_eq_true rfl⟩ rfl (fun v hv => ?_)
          obtain rfl := hv
          refine g_st (st' := [_]) rfl ?_
          refine g_topi (oNt (k := k) 0 eN2 (by omega) hm8 rfl (by decide)) ?_
          refine g_iload_n X dL_come_83 rfl 9 rfl rfl ?_
          refine g_icmp_ne X dL_come_84 113 (by decide) rfl (fun h84 => ?_) (fun h84 => ?_)
          · refine g_iinc (v := nI (k + 1)) X [(11, _), (10, _), (9, _), (8, _), (7, _), (6, _), (5, _), (4, _), (0, _), (1, _), (2, _), (3, _)] dL_come_113 0 rfl (nI_add k 1) (by decide) rfl rfl ?_
            refine g_goto X dL_come_116 64 (by decide) ?_
            refine ih (n - (k + 1)) (by omega) (k + 1) _ (by omega) rfl ?_
            rcases hx with ⟨h1, h2⟩ | ⟨j, h1, h2, h3, h4⟩
            · refine Or.inl ⟨h1, fun j hj hwf => ?_⟩
              rcases Nat.lt_or_ge j k with q | q
              · exact h2 j q hwf
              · rw [show j = k from by omega]
                exact isN_f (fun z => by first | exact h84 z.1 | exact h95 z.2.1 | exact h106 z.2.2)
            · exact Or.inr ⟨j, by omega, h2, h3, h4⟩
          · refine g_aload_n X dL_come_87 rfl 8 rfl rfl ?_
            refine g_iload X dL_come_88 0 rfl rfl ?_
            refine g_iconst (v := (1 : Int32)) X dL_come_90 (by decide) rfl ?_
            refine g_callVRX (w0 := []) (n := 2) (As := [_, _]) (rest := []) X (c_X6_note l D a f na w td vl L pt fl kd kp (fqa pq) (fqa ps) (tlW D pq ps) mk n b hW hNR _ _) gL_come_X6_note rfl (by decide +kernel) ⟨Nat.le_of_ble_eq_true rfl, Nat.le_of_ble_eq_true rfl⟩ 20 rfl rfl rfl rfl rfl (Nat.le_of_ble_eq_true rfl) dL_come_91 ⟨Nat.le_of_ble_eq_true rfl, Nat.le_of_ble_eq_true rfl⟩ rfl (fun v hv => ?_)
            obtain rfl := hv
            refine g_st (st' := [_]) rfl ?_
            refine g_topi (oNt (k := k) 1 eN2 (by omega) hm8 rfl (by decide)) ?_
            refine g_iload_n X dL_come_94 rfl 10 rfl rfl ?_
            refine g_icmp_ne X dL_come_95 113 (by decide) rfl (fun h95 => ?_) (fun h95 => ?_)
            · refine g_iinc (v := nI (k + 1)) X [(11, _), (10, _), (9, _), (8, _), (7, _), (6, _), (5, _), (4, _), (0, _), (1, _), (2, _), (3, _)] dL_come_113 0 rfl (nI_add k 1) (by decide) rfl rfl ?_
              refine g_goto X dL_come_116 64 (by decide) ?_
              refine ih (n - (k + 1)) (by omega) (k + 1) _ (by omega) rfl ?_
              rcases hx with ⟨h1, h2⟩ | ⟨j, h1, h2, h3, h4⟩
              · refine Or.inl ⟨h1, fun j hj hwf => ?_⟩
                rcases Nat.lt_or_ge j k with q | q
                · exact h2 j q hwf
                · rw [show j = k from by omega]
                  exact isN_f (fun z => by first | exact h84 z.1 | exact h95 z.2.1 | exact h106 z.2.2)
              · exact Or.inr ⟨j, by omega, h2, h3, h4⟩
            · refine g_aload_n X dL_come_98 rfl 8 rfl rfl ?_
              refine g_iload X dL_come_99 0 rfl rfl ?_
              refine g_iconst (v := (2 : Int32)) X dL_come_101 (by decide) rfl ?_
              refine g_callVRX (w0 := []) (n := 2) (As := [_, _]) (rest := []) X (c_X6_note l D a f na w td vl L pt fl kd kp (fqa pq) (fqa ps) (tlW D pq ps) mk n b hW hNR _ _) gL_come_X6_note rfl (by decide +kernel) ⟨Nat.le_of_ble_eq_true rfl, Nat.le_of_ble_eq_true rfl⟩ 20 rfl rfl rfl rfl rfl (Nat.le_of_ble_eq_true rfl) dL_come_102 ⟨Nat.le_of_ble_eq_true rfl, Nat.le_of_ble_eq_true rfl⟩ rfl (fun v hv => ?_)
              obtain rfl := hv
              refine g_st (st' := [_]) rfl ?_
              refine g_topi (oNt (k := k) 2 eN2 (by omega) hm8 rfl (by decide)) ?_
              refine g_iload_n X dL_come_105 rfl 11 rfl rfl ?_
              refine g_icmp_ne X dL_come_106 113 (by decide) rfl (fun h106 => ?_) (fun h106 => ?_)
              · refine g_iinc (v := nI (k + 1)) X [(11, _), (10, _), (9, _), (8, _), (7, _), (6, _), (5, _), (4, _), (0, _), (1, _), (2, _), (3, _)] dL_come_113 0 rfl (nI_add k 1) (by decide) rfl rfl ?_
                refine g_goto X dL_come_116 64 (by decide) ?_
                refine ih (n - (k + 1)) (by omega) (k + 1) _ (by omega) rfl ?_
                rcases hx with ⟨h1, h2⟩ | ⟨j, h1, h2, h3, h4⟩
                · refine Or.inl ⟨h1, fun j hj hwf => ?_⟩
                  rcases Nat.lt_or_ge j k with q | q
                  · exact h2 j q hwf
                  · rw [show j = k from by omega]
                    exact isN_f (fun z => by first | exact h84 z.1 | exact h95 z.2.1 | exact h106 z.2.2)
                · exact Or.inr ⟨j, by omega, h2, h3, h4⟩
              · refine g_iload X dL_come_109 0 rfl rfl ?_
                refine g_istore X [(10, _), (11, _), (9, _), (8, _), (7, _), (6, _), (5, _), (4, _), (0, _), (1, _), (2, _), (3, _)] dL_come_111 (by decide) rfl rfl ?_
                refine g_iinc (v := nI (k + 1)) X [(11, _), (10, _), (9, _), (8, _), (7, _), (6, _), (5, _), (4, _), (0, _), (1, _), (2, _), (3, _)] dL_come_113 1 rfl (nI_add k 1) (by decide) rfl rfl ?_
                refine g_goto X dL_come_116 64 (by decide) ?_
                refine ih (n - (k + 1)) (by omega) (k + 1) _ (by omega) rfl ?_
                exact Or.inr ⟨k, by omega, h73, isN_t h84 h95 h106, rfl⟩
    exact L64 n 0 _ (by omega) rfl (Or.inl ⟨rfl, fun j hj => absurd hj (Nat.not_lt_zero j)⟩)
  refine g_iload X dL_come_36 4 rfl rfl ?_
  refine g_iload_n X dL_come_38 rfl 6 rfl rfl ?_
  refine g_icmp_eq X dL_come_39 55 (by decide) rfl (fun h39 => ?_) (fun h39 => ?_)
  · refine g_iconst (v := (0 : Int32)) X dL_come_55 (by decide) rfl ?_
    exact L56 false (by unfold cmW; rw [decide_eq_false (p := ¬ f 77 = nI g) (not_not_intro h39)]; rfl)
  · refine g_aload_n X dL_come_42 rfl 5 rfl rfl ?_
    refine g_bipush (v := (10 : Int32)) X dL_come_43 (by decide) rfl ?_
    refine g_callVRX (w0 := []) (n := 1) (As := [_]) (rest := []) X (c_X6_count l D a f na w td vl L pt fl kd kp (fqa pq) (fqa ps) (tlW D pq ps) mk n b hW hNR _) gL_come_X6_count rfl (by decide +kernel) ⟨Nat.le_of_ble_eq_true rfl, Nat.le_of_ble_eq_true rfl⟩ 20 rfl rfl rfl rfl rfl (Nat.le_of_ble_eq_true rfl) dL_come_45 ⟨Nat.le_of_ble_eq_true rfl, Nat.le_of_ble_eq_true rfl⟩ rfl (fun v hv => ?_)
    obtain rfl := hv
    refine g_st (st' := [_]) rfl ?_
    refine g_topi (oC10) ?_
    refine g_if_ne X dL_come_48 55 (by decide) rfl (fun h48 => ?_) (fun h48 => ?_)
    · refine g_iconst (v := (0 : Int32)) X dL_come_55 (by decide) rfl ?_
      exact L56 false (by unfold cmW; rw [decide_eq_false (p := f 1 = 0) h48, Bool.and_false])
    · refine g_iconst (v := (1 : Int32)) X dL_come_51 (by decide) rfl ?_
      refine g_goto X dL_come_52 56 (by decide) ?_
      exact L56 true (by unfold cmW; rw [decide_eq_true h39, decide_eq_true h48]; rfl)
