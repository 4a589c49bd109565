set_option maxHeartbeats 4000000 in
set_option maxRecDepth 100000 in
theorem c_L_changed_own (l : Launch) (D : DT) (a : Nat → Nat) (f : Nat → Int32) (na : Nat → Nat → Int32) (w td vl : Nat → Int32) (L pt fl : Nat) (kd : Int32) (kp : Nat) (pq ps : Nat → Option HH) (mk n b : Nat) (hW : WF f mk n b) (hNR : NR f na n) (hF : FB f) (hkp : kp ≤ 6) (l9 : List (Nat → Int32)) (hHL : HL kp pq l9) (cr : Nat) (hcr : cr ≤ 1000) (hS : SI cr f) (hL : L ≤ 80) (hch : ∀ k, k < L → ∃ ch : Nat, ch < 256 ∧ td k = nI ch) (p9 : Nat) (hp12 : p9 < 12) (gu : Int32) (hgu : gu = -6 ∨ ∃ g : Nat, g < 6 ∧ gu = nI g) (sm : Bool) (hsm : sm = decide (f (4 + p9) = gu)) : MW l yL_changed wsL_changed 6 141 18 356 D [.ref (a 19), .int (nI p9), .int (-1), .int (gu), .int (b2i sm)] (wB D a f na w td vl L pt fl kd kp (fqa pq) (fqa ps) (tlW D pq ps)) (lwP D a ps (wB D a f na w td vl L pt fl kd kp (fqa pq) (fqa ps) (tlW D pq ps)) (cr)) := by
  obtain ⟨hmk, hm40, hn8, hb0, hb01, hb08, hn8b, hst, hno, how, hdo, hb0a, hb0c, hb0d, hb0z⟩ := id hW
  have hm8 : n ≤ 8 := by omega
  obtain ⟨eN1, eN2, -⟩ := hW.N
  have hNt := hS.1
  refine MW.of (cc := cL_changed) (maxL := 15) (ret := (some .boolean)) (lv := [(0, .ref (a 19)), (1, .int (nI p9)), (2, .int (-1)), (3, .int (gu)), (4, .int (b2i sm))]) (by decide +kernel) rfl (Nat.le_of_ble_eq_true rfl) rfl ?_
  intro p e s m below meth c A hAe hAg X hr hmn
  refine g_aload_n X dL_changed_0 rfl 0 rfl rfl ?_
  refine g_iconst (v := (2 : Int32)) X dL_changed_1 (by decide) rfl ?_
  refine g_callVRX (w0 := []) (n := 1) (As := [_]) (rest := []) X (c_X6_count l D a f na w td vl L pt fl kd kp (fqa pq) (fqa ps) (tlW D pq ps) mk n b hW hNR _) gL_changed_X6_count rfl (by decide +kernel) ⟨Nat.le_of_ble_eq_true rfl, Nat.le_of_ble_eq_true rfl⟩ 20 rfl rfl rfl rfl rfl (Nat.le_of_ble_eq_true rfl) dL_changed_2 ⟨Nat.le_of_ble_eq_true rfl, Nat.le_of_ble_eq_true rfl⟩ rfl (fun v hv => ?_)
  obtain rfl := hv
  refine g_st (st' := [_]) rfl ?_
  refine g_topi (oC2.trans hn8) ?_
  refine g_istore X [(5, _), (0, _), (1, _), (2, _), (3, _), (4, _)] dL_changed_5 (by decide) rfl rfl ?_
  refine g_aload_n X dL_changed_7 rfl 1 rfl rfl ?_
  refine g_bipush (v := (7 : Int32)) X dL_changed_8 (by decide) rfl ?_
  refine g_callVRX (w0 := []) (n := 1) (As := [_]) (rest := []) X (c_X6_count l D a f na w td vl L pt fl kd kp (fqa pq) (fqa ps) (tlW D pq ps) mk n b hW hNR _) gL_changed_X6_count rfl (by decide +kernel) ⟨Nat.le_of_ble_eq_true rfl, Nat.le_of_ble_eq_true rfl⟩ 20 rfl rfl rfl rfl rfl (Nat.le_of_ble_eq_true rfl) dL_changed_10 ⟨Nat.le_of_ble_eq_true rfl, Nat.le_of_ble_eq_true rfl⟩ rfl (fun v hv => ?_)
  obtain rfl := hv
  refine g_st (st' := [_]) rfl ?_
  refine g_topi (oC7) ?_
  refine g_istore X [(6, _), (5, _), (0, _), (1, _), (2, _), (3, _), (4, _)] dL_changed_13 (by decide) rfl rfl ?_
  refine g_bipush (v := (8 : Int32)) X dL_changed_15 (by decide) rfl ?_
  refine g_newa_int (N := 8) X hAg rfl dL_changed_17 (List.mem_of_getElem? (l := wsL_changed) (i := 1) rfl) rfl (Nat.le_of_ble_eq_true rfl) ⟨Nat.le_of_ble_eq_true rfl, Nat.le_of_ble_eq_true rfl⟩ rfl (fun q1 => ?_)
  refine g_perm (ws' := ([(q1, .inl (D.2.1, 8, .inl (fun _ => 0)))] ++ wB D a f na w td vl L pt fl kd kp (fqa pq) (fqa ps) (tlW D pq ps))) (perm_last _ _) ?_
  refine g_astore X [(7, _), (6, _), (5, _), (0, _), (1, _), (2, _), (3, _), (4, _)] dL_changed_19 (by decide) rfl rfl ?_
  refine g_bipush (v := (8 : Int32)) X dL_changed_21 (by decide) rfl ?_
  refine g_newa_int (N := 8) X hAg rfl dL_changed_23 (List.mem_of_getElem? (l := wsL_changed) (i := 1) rfl) rfl (Nat.le_of_ble_eq_true rfl) ⟨Nat.le_of_ble_eq_true rfl, Nat.le_of_ble_eq_true rfl⟩ rfl (fun q2 => ?_)
  refine g_perm (ws' := ([(q2, .inl (D.2.1, 8, .inl (fun _ => 0))), (q1, .inl (D.2.1, 8, .inl (fun _ => 0)))] ++ wB D a f na w td vl L pt fl kd kp (fqa pq) (fqa ps) (tlW D pq ps))) (perm_last _ _) ?_
  refine g_astore X [(8, _), (7, _), (6, _), (5, _), (0, _), (1, _), (2, _), (3, _), (4, _)] dL_changed_25 (by decide) rfl rfl ?_
  refine g_iconst (v := (0 : Int32)) X dL_changed_27 (by decide) rfl ?_
  refine g_istore X [(9, _), (8, _), (7, _), (6, _), (5, _), (0, _), (1, _), (2, _), (3, _), (4, _)] dL_changed_28 (by decide) rfl rfl ?_
  have L30 : ∀ (jj i : Nat) (F1 F2 : Nat → Int32) (hi : i ≤ n) (hj : n - i = jj) (hF1 : ∀ j, j < i → F1 j = 1) (hF2 : ∀ j, j < i → F2 j = ((((1000 : Int32) * noteM f j 0) + ((100 : Int32) * noteM f j 1)) + ((20 : Int32) * noteM f j 2)) + noteM f j 3), GG p l e (wRoom 6 141 18 356) s m ([.ref (a 19), .int (nI p9), .int (-1), .int (gu), .int (b2i sm)] : List Value).toArray below meth c D A 15 false 2 16 (MQ below (wrQ D (wB D a f na w td vl L pt fl kd kp (fqa pq) (fqa ps) (tlW D pq ps)) s.heap.size (lwP D a ps (wB D a f na w td vl L pt fl kd kp (fqa pq) (fqa ps) (tlW D pq ps)) (cr))) ([.ref (a 19), .int (nI p9), .int (-1), .int (gu), .int (b2i sm)] : List Value).toArray s 18 356 (va_A (wB D a f na w td vl L pt fl kd kp (fqa pq) (fqa ps) (tlW D pq ps)) s.heap.size)) ([(q2, .inl (D.2.1, 8, .inl F2)), (q1, .inl (D.2.1, 8, .inl F1))] ++ wB D a f na w td vl L pt fl kd kp (fqa pq) (fqa ps) (tlW D pq ps)) 30 [(9, .int (nI i)), (8, .ref (q2)), (7, .ref (q1)), (6, .int (f 81)), (5, .int (nI n)), (0, .ref (a 19)), (1, .int (nI p9)), (2, .int (-1)), (3, .int (gu)), (4, .int (b2i sm))] [] := by
    intro jj
    induction jj using Nat.strongRecOn with
    | _ jj ih =>
    intro i F1 F2 hi hj hF1 hF2
    refine g_iload X dL_changed_30 0 rfl rfl ?_
    refine g_iload X dL_changed_32 4 rfl rfl ?_
    refine g_icmp_ge X dL_changed_34 133 (by decide) rfl (fun h34 => ?_) (fun h34 => ?_)
    · have i34 := nj_le (a := n) (b := i) (by omega) (by omega) h34
      refine g_iload_n X dL_changed_133 rfl 7 rfl rfl ?_
      refine g_if_lt X dL_changed_134 145 (by decide) rfl (fun h134 => ?_) (fun h134 => absurd h134 (by decide))
      refine g_aload_n X dL_changed_145 rfl 5 rfl rfl ?_
      refine g_iload_n X dL_changed_146 rfl 6 rfl rfl ?_
      refine g_iload_n X dL_changed_147 rfl 8 rfl rfl ?_
      refine g_callVX (w0 := [(q2, .inl (D.2.1, 8, .inl F2)), (q1, .inl (D.2.1, 8, .inl F1))]) (n := 2) (As := [_, _]) (rest := []) X hAg rfl (c_X6_own l D a f na w td vl L pt fl kd kp pq ps mk n b hW hNR hF hkp hHL.hq _ _) gL_changed_X6_own rfl (by decide +kernel) ⟨Nat.le_of_ble_eq_true rfl, Nat.le_of_ble_eq_true rfl⟩ 20 rfl rfl rfl rfl rfl (Nat.le_of_ble_eq_true rfl) dL_changed_148 ⟨Nat.le_of_ble_eq_true rfl, Nat.le_of_ble_eq_true rfl⟩ rfl (fun v w9 hv => ?_)
      obtain ⟨rfl, fA, naA, wA, kpA, pqA, efA, hNA, hAA, hkpA, hHLA, ekA, rfl⟩ := ch_out hv hkp hHL hF ⟨_, hNR, hn8⟩
      have hADA := hAA
      refine ⟨hAA, ?_⟩
      refine g_st (st' := [_]) rfl ?_
      obtain ⟨P, hrx, hC, hfin, hSA⟩ := own_chg hW hp12 hgu hS
      rw [← efA] at hC hfin hSA
      rw [← hsm] at hC
      obtain ⟨hWA, hld, h2e, h81e, hrow, hPk⟩ := id hC
      refine g_topi (hrx) ?_
      have hNRA := hNA.to hWA
      have hFA : FB fA := by rw [efA]; exact own_fb ⟨mk, n, b, hW⟩ hF
      obtain ⟨hmkA, hm40A, hn8A, hb0A, hb0A1, hb0A8, hn8Ab, hstA, hnoA, howA, hdoA, hb0Aa, hb0Ac, hb0Ad, hb0Az⟩ := id hWA
      have hm8A : (n - (cnI P n)) ≤ 8 := by omega
      obtain ⟨eN1A, eN2A, -⟩ := hWA.N
      refine g_istore X [(9, _), (8, _), (7, _), (6, _), (5, _), (0, _), (1, _), (2, _), (3, _), (4, _)] dL_changed_151 (by decide) rfl rfl ?_
      refine g_iconst (v := (0 : Int32)) X dL_changed_153 (by decide) rfl ?_
      refine g_istore X [(10, _), (9, _), (8, _), (7, _), (6, _), (5, _), (0, _), (1, _), (2, _), (3, _), (4, _)] dL_changed_154 (by decide) rfl rfl ?_
      refine g_iconst (v := (0 : Int32)) X dL_changed_156 (by decide) rfl ?_
      refine g_istore X [(11, _), (10, _), (9, _), (8, _), (7, _), (6, _), (5, _), (0, _), (1, _), (2, _), (3, _), (4, _)] dL_changed_157 (by decide) rfl rfl ?_
      have L159 : ∀ (jj k : Nat) (hk : k ≤ n) (hj : n - k = jj), GG p l e (wRoom 6 141 18 356) s m ([.ref (a 19), .int (nI p9), .int (-1), .int (gu), .int (b2i sm)] : List Value).toArray below meth c D A 15 false 18 356 (MQ below (wrQ D (wB D a f na w td vl L pt fl kd kp (fqa pq) (fqa ps) (tlW D pq ps)) s.heap.size (lwP D a ps (wB D a f na w td vl L pt fl kd kp (fqa pq) (fqa ps) (tlW D pq ps)) (cr))) ([.ref (a 19), .int (nI p9), .int (-1), .int (gu), .int (b2i sm)] : List Value).toArray s 18 356 (va_A (wB D a f na w td vl L pt fl kd kp (fqa pq) (fqa ps) (tlW D pq ps)) s.heap.size)) ([(q2, .inl (D.2.1, 8, .inl F2)), (q1, .inl (D.2.1, 8, .inl F1))] ++ wB D a fA naA wA td vl L pt fl kd kpA (fqa pqA) (fqa ps) (tlW D pqA ps)) 159 [(11, .int (nI k)), (10, .int (nI (cnI P k))), (9, .int (nI (cnI P n))), (8, .ref (q2)), (7, .ref (q1)), (6, .int (f 81)), (5, .int (nI n)), (0, .ref (a 19)), (1, .int (nI p9)), (2, .int (-1)), (3, .int (gu)), (4, .int (b2i sm))] [] := by
        intro jj
        induction jj using Nat.strongRecOn with
        | _ jj ih =>
        intro k hk hj
        have hcl := cnI_le P k
        have hcn := cnI_le P n
        refine g_iload X dL_changed_159 0 rfl rfl ?_
        refine g_iload X dL_changed_161 6 rfl rfl ?_
        refine g_icmp_ge X dL_changed_163 341 (by decide) rfl (fun h163 => ?_) (fun h163 => ?_)
        · have i163 := nj_le (a := n) (b := k) (by omega) (by omega) h163
          rw [show k = n from by omega]
          refine g_iload X dL_changed_341 2 rfl rfl ?_
          refine g_iload X dL_changed_343 1 rfl rfl ?_
          refine g_icmp_ne X dL_changed_345 407 (by decide) rfl (fun h345 => absurd rfl h345) (fun h345 => ?_)
          refine g_aload_n X dL_changed_348 rfl 7 rfl rfl ?_
          refine g_iconst (v := (2 : Int32)) X dL_changed_349 (by decide) rfl ?_
          refine g_callVRX (w0 := [(q2, .inl (D.2.1, 8, .inl F2)), (q1, .inl (D.2.1, 8, .inl F1))]) (n := 1) (As := [_]) (rest := []) X (c_X6_count l D a fA naA wA td vl L pt fl kd kpA (fqa pqA) (fqa ps) (tlW D pqA ps) mk (n - (cnI P n)) b hWA hNRA _) gL_changed_X6_count rfl (by decide +kernel) ⟨Nat.le_of_ble_eq_true rfl, Nat.le_of_ble_eq_true rfl⟩ 20 rfl rfl rfl rfl rfl (Nat.le_of_ble_eq_true rfl) dL_changed_350 ⟨Nat.le_of_ble_eq_true rfl, Nat.le_of_ble_eq_true rfl⟩ rfl (fun v hv => ?_)
          obtain rfl := hv
          refine g_st (st' := [_]) rfl ?_
          refine g_topi (oC2.trans hn8A) ?_
          refine g_iload X dL_changed_353 6 rfl rfl ?_
          refine g_iload X dL_changed_355 1 rfl rfl ?_
          refine g_isub X dL_changed_357 rfl ?_
          refine g_topi (y := nI (n - (cnI P n))) (pk_sub (a := n) (b := (cnI P n)) (by omega)) ?_
          refine g_icmp_ne X dL_changed_358 407 (by decide) rfl (fun h358 => absurd rfl h358) (fun h358 => ?_)
          refine g_aload_n X dL_changed_361 rfl 7 rfl rfl ?_
          refine g_bipush (v := (7 : Int32)) X dL_changed_362 (by decide) rfl ?_
          refine g_callVRX (w0 := [(q2, .inl (D.2.1, 8, .inl F2)), (q1, .inl (D.2.1, 8, .inl F1))]) (n := 1) (As := [_]) (rest := []) X (c_X6_count l D a fA naA wA td vl L pt fl kd kpA (fqa pqA) (fqa ps) (tlW D pqA ps) mk (n - (cnI P n)) b hWA hNRA _) gL_changed_X6_count rfl (by decide +kernel) ⟨Nat.le_of_ble_eq_true rfl, Nat.le_of_ble_eq_true rfl⟩ 20 rfl rfl rfl rfl rfl (Nat.le_of_ble_eq_true rfl) dL_changed_364 ⟨Nat.le_of_ble_eq_true rfl, Nat.le_of_ble_eq_true rfl⟩ rfl (fun v hv => ?_)
          obtain rfl := hv
          refine g_st (st' := [_]) rfl ?_
          refine g_topi (oC7) ?_
          refine g_topi (h81e) ?_
          refine g_iload X dL_changed_367 5 rfl rfl ?_
          refine g_iload X dL_changed_369 1 rfl rfl ?_
          refine g_iadd X dL_changed_371 rfl ?_
          refine g_icmp_ne X dL_changed_372 407 (by decide) rfl (fun h372 => absurd rfl h372) (fun h372 => ?_)
          refine g_iload_n X dL_changed_375 rfl 9 rfl rfl ?_
          refine g_if_lt X dL_changed_376 393 (by decide) rfl (fun h376 => ?_) (fun h376 => absurd h376 (by decide))
          refine g_aload_n X dL_changed_393 rfl 7 rfl rfl ?_
          refine g_iload_n X dL_changed_394 rfl 8 rfl rfl ?_
          refine g_iconst (v := (0 : Int32)) X dL_changed_395 (by decide) rfl ?_
          refine g_callVRX (w0 := [(q2, .inl (D.2.1, 8, .inl F2)), (q1, .inl (D.2.1, 8, .inl F1))]) (n := 2) (As := [_, _]) (rest := []) X (c_X6_ofPage l D a fA naA wA td vl L pt fl kd kpA (fqa pqA) (fqa ps) (tlW D pqA ps) mk (n - (cnI P n)) b hWA hNRA _ _) gL_changed_X6_ofPage rfl (by decide +kernel) ⟨Nat.le_of_ble_eq_true rfl, Nat.le_of_ble_eq_true rfl⟩ 20 rfl rfl rfl rfl rfl (Nat.le_of_ble_eq_true rfl) dL_changed_396 ⟨Nat.le_of_ble_eq_true rfl, Nat.le_of_ble_eq_true rfl⟩ rfl (fun v hv => ?_)
          obtain rfl := hv
          refine g_st (st' := [_]) rfl ?_
          refine g_topi (oPg0 (p := p9) (by omega)) ?_
          refine g_topi (hfin) ?_
          refine g_iload_n X dL_changed_399 rfl 10 rfl rfl ?_
          refine g_icmp_ne X dL_changed_400 407 (by decide) rfl (fun h400 => absurd rfl h400) (fun h400 => ?_)
          refine g_iconst (v := (1 : Int32)) X dL_changed_403 (by decide) rfl ?_
          refine g_goto X dL_changed_404 408 (by decide) ?_
          refine g_drop ?_
          refine g_retW X hr (by first | rfl | exact b2i_nar _) dL_changed_408 hAe ?_
          exact ⟨rfl, fA, naA, wA, td, vl, L, pt, fl, kd, kpA, pqA, ⟨⟨_, _, _, hWA⟩, ⟨_, hNRA, hn8A⟩, hFA, hSA, hL, hch, hkpA, _, hHLA⟩, hADA, rfl⟩
        · have i163 := nj_nle (a := n) (b := k) (by omega) (by omega) h163
          refine g_aload_n X dL_changed_166 rfl 7 rfl rfl ?_
          refine g_aload X dL_changed_167 3 rfl rfl ?_
          refine g_iload X dL_changed_169 0 rfl rfl ?_
          refine g_ldA0 (k := k) X dL_changed_171 rfl (by omega) rfl ?_
          obtain ⟨g, d, e9, t, hg, hd, he, ht, en0, en1, en2, el, en3, eh, eg, er⟩ := hNt.ok eN2 i163
          rw [eN1] at ht
          obtain ⟨⟨pp, hpp, epp⟩, -, -, -, -, -, -⟩ := id (hst t ht)
          have hlb : ledBy f k = nI t := (ledBy_of en0 en1 hg hd).trans el
          have hPv := hPk k i163 t ht hlb eg
          have he2 : 1 ≤ e9 ∧ e9 ≤ 2 := by omega
          have hky : F2 k = nI (1000 * g + 100 * d + 20 * e9 + pp) := by
            rw [hF2 k (by omega), en0, en1, en2, en3, epp, show (1000 : Int32) = nI 1000 from rfl, show (100 : Int32) = nI 100 from rfl, show (20 : Int32) = nI 20 from rfl, pk_mul, pk_mul, pk_mul, nI_add, nI_add, nI_add]
          refine g_topi (hky) ?_
          refine g_sipush (v := (1000 : Int32)) X dL_changed_172 (by decide) rfl ?_
          refine g_idiv X dL_changed_175 (by decide) rfl ?_
          refine g_topi (y := nI ((1000 * g + 100 * d + 20 * e9 + pp) / 1000)) (nI_div (a := (1000 * g + 100 * d + 20 * e9 + pp)) (b := 1000) (by omega) (by omega)) ?_
          refine g_topi ((show nI ((1000 * g + 100 * d + 20 * e9 + pp) / 1000) = nI g from by rw [show (1000 * g + 100 * d + 20 * e9 + pp) / 1000 = g from by omega])) ?_
          refine g_aload X dL_changed_176 3 rfl rfl ?_
          refine g_iload X dL_changed_178 0 rfl rfl ?_
          refine g_ldA0 (k := k) X dL_changed_180 rfl (by omega) rfl ?_
          refine g_topi (hky) ?_
          refine g_bipush (v := (100 : Int32)) X dL_changed_181 (by decide) rfl ?_
          refine g_idiv X dL_changed_183 (by decide) rfl ?_
          refine g_topi (y := nI ((1000 * g + 100 * d + 20 * e9 + pp) / 100)) (nI_div (a := (1000 * g + 100 * d + 20 * e9 + pp)) (b := 100) (by omega) (by omega)) ?_
          refine g_bipush (v := (10 : Int32)) X dL_changed_184 (by decide) rfl ?_
          refine g_irem X dL_changed_186 (by decide) rfl ?_
          refine g_topi (y := nI (((1000 * g + 100 * d + 20 * e9 + pp) / 100) % 10)) (nI_rem (a := ((1000 * g + 100 * d + 20 * e9 + pp) / 100)) (b := 10) (by omega) (by omega)) ?_
          refine g_topi ((show nI ((1000 * g + 100 * d + 20 * e9 + pp) / 100 % 10) = nI d from by rw [show (1000 * g + 100 * d + 20 * e9 + pp) / 100 % 10 = d from by omega])) ?_
          refine g_callVRX (w0 := [(q2, .inl (D.2.1, 8, .inl F2)), (q1, .inl (D.2.1, 8, .inl F1))]) (n := 2) (As := [_, _]) (rest := []) X (c_X6_leads l D a fA naA wA td vl L pt fl kd kpA (fqa pqA) (fqa ps) (tlW D pqA ps) mk (n - (cnI P n)) b hWA hNRA _ _) gL_changed_X6_leads rfl (by decide +kernel) ⟨Nat.le_of_ble_eq_true rfl, Nat.le_of_ble_eq_true rfl⟩ 20 rfl rfl rfl rfl rfl (Nat.le_of_ble_eq_true rfl) dL_changed_187 ⟨Nat.le_of_ble_eq_true rfl, Nat.le_of_ble_eq_true rfl⟩ rfl (fun v hv => ?_)
          obtain rfl := hv
          refine g_st (st' := [_]) rfl ?_
          refine g_topi (oLd (g := g) (d := d) (by omega) (by omega)) ?_
          refine g_topi (((hld g d hg hd).trans el)) ?_
          refine g_istore X [(12, _), (11, _), (10, _), (9, _), (8, _), (7, _), (6, _), (5, _), (0, _), (1, _), (2, _), (3, _), (4, _)] dL_changed_190 (by decide) rfl rfl ?_
          refine g_iload X dL_changed_192 12 rfl rfl ?_
          refine g_if_ne X dL_changed_194 253 (by decide) rfl (fun h194 => ?_) (fun h194 => ?_)
          · replace h194 := b2i_n0 h194
            refine g_iconst (v := (0 : Int32)) X dL_changed_253 (by decide) rfl ?_
            refine g_istore X [(13, _), (12, _), (11, _), (10, _), (9, _), (8, _), (7, _), (6, _), (5, _), (0, _), (1, _), (2, _), (3, _), (4, _)] dL_changed_254 (by decide) rfl rfl ?_
            have hPt : P k = false := by rw [hPv, h194]; first | done | rfl
            refine g_iload X dL_changed_256 0 rfl rfl ?_
            refine g_if_eq X dL_changed_258 267 (by decide) rfl (fun h258 => ?_) (fun h258 => absurd h258 (by decide))
            refine g_iload X dL_changed_267 2 rfl rfl ?_
            refine g_iload X dL_changed_269 3 rfl rfl ?_
            refine g_isub X dL_changed_271 rfl ?_
            refine g_topi (y := nI (k - (cnI P k))) (pk_sub (a := k) (b := (cnI P k)) (by omega)) ?_
            refine g_istore X [(14, _), (13, _), (12, _), (11, _), (10, _), (9, _), (8, _), (7, _), (6, _), (5, _), (0, _), (1, _), (2, _), (3, _), (4, _)] dL_changed_272 (by decide) rfl rfl ?_
            have hjl := cnI_kp (P := P) i163 hPt
            refine g_iload X dL_changed_274 0 rfl rfl ?_
            refine g_aload_n X dL_changed_276 rfl 10 rfl rfl ?_
            refine g_iconst (v := (2 : Int32)) X dL_changed_277 (by decide) rfl ?_
            refine g_callVRX (w0 := [(q2, .inl (D.2.1, 8, .inl F2)), (q1, .inl (D.2.1, 8, .inl F1))]) (n := 1) (As := [_]) (rest := [_]) X (c_X6_count l D a fA naA wA td vl L pt fl kd kpA (fqa pqA) (fqa ps) (tlW D pqA ps) mk (n - (cnI P n)) b hWA hNRA _) gL_changed_X6_count rfl (by decide +kernel) ⟨Nat.le_of_ble_eq_true rfl, Nat.le_of_ble_eq_true rfl⟩ 20 rfl rfl rfl rfl rfl (Nat.le_of_ble_eq_true rfl) dL_changed_278 ⟨Nat.le_of_ble_eq_true rfl, Nat.le_of_ble_eq_true rfl⟩ rfl (fun v hv => ?_)
            obtain rfl := hv
            refine g_st (st' := [_, _]) rfl ?_
            refine g_topi (oC2.trans hn8A) ?_
            refine g_icmp_ge X dL_changed_281 333 (by decide) rfl (fun h281 => absurd (nj_le (a := (n - (cnI P n))) (b := (k - (cnI P k))) (by omega) (by omega) h281) (by omega)) (fun h281 => ?_)
            have i281 := nj_nle (a := (n - (cnI P n))) (b := (k - (cnI P k))) (by omega) (by omega) h281
            refine g_sipush (v := (1000 : Int32)) X dL_changed_284 (by decide) rfl ?_
            refine g_aload_n X dL_changed_287 rfl 10 rfl rfl ?_
            refine g_iload X dL_changed_288 0 rfl rfl ?_
            refine g_iconst (v := (0 : Int32)) X dL_changed_290 (by decide) rfl ?_
            refine g_callVRX (w0 := [(q2, .inl (D.2.1, 8, .inl F2)), (q1, .inl (D.2.1, 8, .inl F1))]) (n := 2) (As := [_, _]) (rest := [_]) X (c_X6_note l D a fA naA wA td vl L pt fl kd kpA (fqa pqA) (fqa ps) (tlW D pqA ps) mk (n - (cnI P n)) b hWA hNRA _ _) gL_changed_X6_note rfl (by decide +kernel) ⟨Nat.le_of_ble_eq_true rfl, Nat.le_of_ble_eq_true rfl⟩ 20 rfl rfl rfl rfl rfl (Nat.le_of_ble_eq_true rfl) dL_changed_291 ⟨Nat.le_of_ble_eq_true rfl, Nat.le_of_ble_eq_true rfl⟩ rfl (fun v hv => ?_)
            obtain rfl := hv
            refine g_st (st' := [_, _]) rfl ?_
            refine g_topi (oNt (k := (k - (cnI P k))) 0 eN2A (by omega) hm8A rfl (by decide)) ?_
            refine g_topi ((hrow k i163 hPt 0 (by omega))) ?_
            refine g_imul X dL_changed_294 rfl ?_
            refine g_bipush (v := (100 : Int32)) X dL_changed_295 (by decide) rfl ?_
            refine g_aload_n X dL_changed_297 rfl 10 rfl rfl ?_
            refine g_iload X dL_changed_298 0 rfl rfl ?_
            refine g_iconst (v := (1 : Int32)) X dL_changed_300 (by decide) rfl ?_
            refine g_callVRX (w0 := [(q2, .inl (D.2.1, 8, .inl F2)), (q1, .inl (D.2.1, 8, .inl F1))]) (n := 2) (As := [_, _]) (rest := [_, _]) X (c_X6_note l D a fA naA wA td vl L pt fl kd kpA (fqa pqA) (fqa ps) (tlW D pqA ps) mk (n - (cnI P n)) b hWA hNRA _ _) gL_changed_X6_note rfl (by decide +kernel) ⟨Nat.le_of_ble_eq_true rfl, Nat.le_of_ble_eq_true rfl⟩ 20 rfl rfl rfl rfl rfl (Nat.le_of_ble_eq_true rfl) dL_changed_301 ⟨Nat.le_of_ble_eq_true rfl, Nat.le_of_ble_eq_true rfl⟩ rfl (fun v hv => ?_)
            obtain rfl := hv
            refine g_st (st' := [_, _, _]) rfl ?_
            refine g_topi (oNt (k := (k - (cnI P k))) 1 eN2A (by omega) hm8A rfl (by decide)) ?_
            refine g_topi ((hrow k i163 hPt 1 (by omega))) ?_
            refine g_imul X dL_changed_304 rfl ?_
            refine g_iadd X dL_changed_305 rfl ?_
            refine g_bipush (v := (20 : Int32)) X dL_changed_306 (by decide) rfl ?_
            refine g_aload_n X dL_changed_308 rfl 10 rfl rfl ?_
            refine g_iload X dL_changed_309 0 rfl rfl ?_
            refine g_iconst (v := (2 : Int32)) X dL_changed_311 (by decide) rfl ?_
            refine g_callVRX (w0 := [(q2, .inl (D.2.1, 8, .inl F2)), (q1, .inl (D.2.1, 8, .inl F1))]) (n := 2) (As := [_, _]) (rest := [_, _]) X (c_X6_note l D a fA naA wA td vl L pt fl kd kpA (fqa pqA) (fqa ps) (tlW D pqA ps) mk (n - (cnI P n)) b hWA hNRA _ _) gL_changed_X6_note rfl (by decide +kernel) ⟨Nat.le_of_ble_eq_true rfl, Nat.le_of_ble_eq_true rfl⟩ 20 rfl rfl rfl rfl rfl (Nat.le_of_ble_eq_true rfl) dL_changed_312 ⟨Nat.le_of_ble_eq_true rfl, Nat.le_of_ble_eq_true rfl⟩ rfl (fun v hv => ?_)
            obtain rfl := hv
            refine g_st (st' := [_, _, _]) rfl ?_
            refine g_topi (oNt (k := (k - (cnI P k))) 2 eN2A (by omega) hm8A rfl (by decide)) ?_
            refine g_topi ((hrow k i163 hPt 2 (by omega))) ?_
            refine g_imul X dL_changed_315 rfl ?_
            refine g_iadd X dL_changed_316 rfl ?_
            refine g_aload_n X dL_changed_317 rfl 10 rfl rfl ?_
            refine g_iload X dL_changed_318 0 rfl rfl ?_
            refine g_iconst (v := (3 : Int32)) X dL_changed_320 (by decide) rfl ?_
            refine g_callVRX (w0 := [(q2, .inl (D.2.1, 8, .inl F2)), (q1, .inl (D.2.1, 8, .inl F1))]) (n := 2) (As := [_, _]) (rest := [_]) X (c_X6_note l D a fA naA wA td vl L pt fl kd kpA (fqa pqA) (fqa ps) (tlW D pqA ps) mk (n - (cnI P n)) b hWA hNRA _ _) gL_changed_X6_note rfl (by decide +kernel) ⟨Nat.le_of_ble_eq_true rfl, Nat.le_of_ble_eq_true rfl⟩ 20 rfl rfl rfl rfl rfl (Nat.le_of_ble_eq_true rfl) dL_changed_321 ⟨Nat.le_of_ble_eq_true rfl, Nat.le_of_ble_eq_true rfl⟩ rfl (fun v hv => ?_)
            obtain rfl := hv
            refine g_st (st' := [_, _]) rfl ?_
            refine g_topi (oNt (k := (k - (cnI P k))) 3 eN2A (by omega) hm8A rfl (by decide)) ?_
            refine g_topi ((hrow k i163 hPt 3 (by omega))) ?_
            refine g_iadd X dL_changed_324 rfl ?_
            refine g_aload X dL_changed_325 6 rfl rfl ?_
            refine g_iload X dL_changed_327 3 rfl rfl ?_
            refine g_ldA0 (k := k) X dL_changed_329 rfl (by omega) rfl ?_
            refine g_topi ((hF2 k (by omega))) ?_
            refine g_icmp_eq X dL_changed_330 335 (by decide) rfl (fun h330 => ?_) (fun h330 => absurd rfl h330)
            refine g_iinc (v := nI (k + 1)) X [(11, _), (14, _), (13, _), (12, _), (10, _), (9, _), (8, _), (7, _), (6, _), (5, _), (0, _), (1, _), (2, _), (3, _), (4, _)] dL_changed_335 3 rfl (nI_add k 1) (by decide) rfl rfl ?_
            refine g_goto X dL_changed_338 159 (by decide) ?_
            refine g_lve [(11, .int (nI (k + 1))), (14, .int (nI (k - (cnI P k)))), (13, .int (0)), (12, .int (nI t)), (10, .int (nI (cnI P (k + 1)))), (9, .int (nI (cnI P n))), (8, .ref (q2)), (7, .ref (q1)), (6, .int (f 81)), (5, .int (nI n)), (0, .ref (a 19)), (1, .int (nI p9)), (2, .int (-1)), (3, .int (gu)), (4, .int (b2i sm))] (by rw [cnI_f hPt]) ?_
            refine g_lv [0, 4, 5, 6, 7, 8, 9, 10, 11, 12, 13, 14] [(11, _), (10, _), (9, _), (8, _), (7, _), (6, _), (5, _), (0, _), (1, _), (2, _), (3, _), (4, _)] rfl ?_
            exact ih (n - (k + 1)) (by omega) (k + 1) (by omega) rfl
          · replace h194 := b2i_0 h194
            refine g_aload_n X dL_changed_197 rfl 8 rfl rfl ?_
            refine g_bipush (v := (11 : Int32)) X dL_changed_198 (by decide) rfl ?_
            refine g_callVRX (w0 := [(q2, .inl (D.2.1, 8, .inl F2)), (q1, .inl (D.2.1, 8, .inl F1))]) (n := 1) (As := [_]) (rest := []) X (c_X6_count l D a fA naA wA td vl L pt fl kd kpA (fqa pqA) (fqa ps) (tlW D pqA ps) mk (n - (cnI P n)) b hWA hNRA _) gL_changed_X6_count rfl (by decide +kernel) ⟨Nat.le_of_ble_eq_true rfl, Nat.le_of_ble_eq_true rfl⟩ 20 rfl rfl rfl rfl rfl (Nat.le_of_ble_eq_true rfl) dL_changed_200 ⟨Nat.le_of_ble_eq_true rfl, Nat.le_of_ble_eq_true rfl⟩ rfl (fun v hv => ?_)
            obtain rfl := hv
            refine g_st (st' := [_]) rfl ?_
            refine g_topi (oC11) ?_
            refine g_topi (h2e) ?_
            refine g_if_eq X dL_changed_203 249 (by decide) rfl (fun h203 => ?_) (fun h203 => ?_)
            · refine g_iconst (v := (1 : Int32)) X dL_changed_249 (by decide) rfl ?_
              refine g_goto X dL_changed_250 254 (by decide) ?_
              refine g_istore X [(13, _), (12, _), (11, _), (10, _), (9, _), (8, _), (7, _), (6, _), (5, _), (0, _), (1, _), (2, _), (3, _), (4, _)] dL_changed_254 (by decide) rfl rfl ?_
              have hPt : P k = true := by rw [hPv, h194, if_pos h203]; first | done | rfl
              refine g_iload X dL_changed_256 0 rfl rfl ?_
              refine g_if_eq X dL_changed_258 267 (by decide) rfl (fun h258 => absurd h258 (by decide)) (fun h258 => ?_)
              refine g_iinc (v := nI ((cnI P k) + 1)) X [(10, _), (13, _), (12, _), (11, _), (9, _), (8, _), (7, _), (6, _), (5, _), (0, _), (1, _), (2, _), (3, _), (4, _)] dL_changed_261 3 rfl (nI_add (cnI P k) 1) (by decide) rfl rfl ?_
              refine g_goto X dL_changed_264 335 (by decide) ?_
              refine g_iinc (v := nI (k + 1)) X [(11, _), (10, _), (13, _), (12, _), (9, _), (8, _), (7, _), (6, _), (5, _), (0, _), (1, _), (2, _), (3, _), (4, _)] dL_changed_335 3 rfl (nI_add k 1) (by decide) rfl rfl ?_
              refine g_goto X dL_changed_338 159 (by decide) ?_
              refine g_lve [(11, .int (nI (k + 1))), (10, .int (nI (cnI P (k + 1)))), (13, .int (1)), (12, .int (nI t)), (9, .int (nI (cnI P n))), (8, .ref (q2)), (7, .ref (q1)), (6, .int (f 81)), (5, .int (nI n)), (0, .ref (a 19)), (1, .int (nI p9)), (2, .int (-1)), (3, .int (gu)), (4, .int (b2i sm))] (by rw [cnI_t hPt]) ?_
              refine g_lv [0, 1, 4, 5, 6, 7, 8, 9, 10, 11, 12, 13] [(11, _), (10, _), (9, _), (8, _), (7, _), (6, _), (5, _), (0, _), (1, _), (2, _), (3, _), (4, _)] rfl ?_
              exact ih (n - (k + 1)) (by omega) (k + 1) (by omega) rfl
            · refine g_aload_n X dL_changed_206 rfl 8 rfl rfl ?_
              refine g_bipush (v := (11 : Int32)) X dL_changed_207 (by decide) rfl ?_
              refine g_callVRX (w0 := [(q2, .inl (D.2.1, 8, .inl F2)), (q1, .inl (D.2.1, 8, .inl F1))]) (n := 1) (As := [_]) (rest := []) X (c_X6_count l D a fA naA wA td vl L pt fl kd kpA (fqa pqA) (fqa ps) (tlW D pqA ps) mk (n - (cnI P n)) b hWA hNRA _) gL_changed_X6_count rfl (by decide +kernel) ⟨Nat.le_of_ble_eq_true rfl, Nat.le_of_ble_eq_true rfl⟩ 20 rfl rfl rfl rfl rfl (Nat.le_of_ble_eq_true rfl) dL_changed_209 ⟨Nat.le_of_ble_eq_true rfl, Nat.le_of_ble_eq_true rfl⟩ rfl (fun v hv => ?_)
              obtain rfl := hv
              refine g_st (st' := [_]) rfl ?_
              refine g_topi (oC11) ?_
              refine g_topi (h2e) ?_
              refine g_iconst (v := (1 : Int32)) X dL_changed_212 (by decide) rfl ?_
              refine g_icmp_ne X dL_changed_213 231 (by decide) rfl (fun h213 => ?_) (fun h213 => ?_)
              · refine g_aload X dL_changed_231 5 rfl rfl ?_
                refine g_iload X dL_changed_233 1 rfl rfl ?_
                refine g_ldA1 (k := k) X dL_changed_235 rfl (by omega) rfl ?_
                refine g_topi ((hF1 k (by omega))) ?_
                refine g_iconst (v := (1 : Int32)) X dL_changed_236 (by decide) rfl ?_
                refine g_icmp_ne X dL_changed_237 253 (by decide) rfl (fun h237 => absurd h237 (by decide)) (fun h237 => ?_)
                refine g_aload_n X dL_changed_240 rfl 8 rfl rfl ?_
                refine g_iload X dL_changed_241 0 rfl rfl ?_
                refine g_callSRX (w0 := [(q2, .inl (D.2.1, 8, .inl F2)), (q1, .inl (D.2.1, 8, .inl F1))]) (n := 2) (As := [_, _]) (rest := []) X (c_L_good l D a fA naA wA td vl L pt fl kd kpA (fqa pqA) (fqa ps) (tlW D pqA ps) mk (n - (cnI P n)) b hWA hNRA t (by omega)) gL_changed_L_good rfl (by decide +kernel) ⟨Nat.le_of_ble_eq_true rfl, Nat.le_of_ble_eq_true rfl⟩ rfl rfl rfl (Nat.le_of_ble_eq_true rfl) dL_changed_243 ⟨Nat.le_of_ble_eq_true rfl, Nat.le_of_ble_eq_true rfl⟩ rfl (fun v hv => ?_)
                obtain rfl := hv
                refine g_st (st' := [_]) rfl ?_
                refine g_if_ne X dL_changed_246 253 (by decide) rfl (fun h246 => ?_) (fun h246 => ?_)
                · replace h246 := b2i_n0 h246
                  refine g_iconst (v := (0 : Int32)) X dL_changed_253 (by decide) rfl ?_
                  refine g_istore X [(13, _), (12, _), (11, _), (10, _), (9, _), (8, _), (7, _), (6, _), (5, _), (0, _), (1, _), (2, _), (3, _), (4, _)] dL_changed_254 (by decide) rfl rfl ?_
                  have hPt : P k = false := by rw [hPv, h194, if_neg h203, if_neg h213, h246]; first | done | rfl
                  refine g_iload X dL_changed_256 0 rfl rfl ?_
                  refine g_if_eq X dL_changed_258 267 (by decide) rfl (fun h258 => ?_) (fun h258 => absurd h258 (by decide))
                  refine g_iload X dL_changed_267 2 rfl rfl ?_
                  refine g_iload X dL_changed_269 3 rfl rfl ?_
                  refine g_isub X dL_changed_271 rfl ?_
                  refine g_topi (y := nI (k - (cnI P k))) (pk_sub (a := k) (b := (cnI P k)) (by omega)) ?_
                  refine g_istore X [(14, _), (13, _), (12, _), (11, _), (10, _), (9, _), (8, _), (7, _), (6, _), (5, _), (0, _), (1, _), (2, _), (3, _), (4, _)] dL_changed_272 (by decide) rfl rfl ?_
                  have hjl := cnI_kp (P := P) i163 hPt
                  refine g_iload X dL_changed_274 0 rfl rfl ?_
                  refine g_aload_n X dL_changed_276 rfl 10 rfl rfl ?_
                  refine g_iconst (v := (2 : Int32)) X dL_changed_277 (by decide) rfl ?_
                  refine g_callVRX (w0 := [(q2, .inl (D.2.1, 8, .inl F2)), (q1, .inl (D.2.1, 8, .inl F1))]) (n := 1) (As := [_]) (rest := [_]) X (c_X6_count l D a fA naA wA td vl L pt fl kd kpA (fqa pqA) (fqa ps) (tlW D pqA ps) mk (n - (cnI P n)) b hWA hNRA _) gL_changed_X6_count rfl (by decide +kernel) ⟨Nat.le_of_ble_eq_true rfl, Nat.le_of_ble_eq_true rfl⟩ 20 rfl rfl rfl rfl rfl (Nat.le_of_ble_eq_true rfl) dL_changed_278 ⟨Nat.le_of_ble_eq_true rfl, Nat.le_of_ble_eq_true rfl⟩ rfl (fun v hv => ?_)
                  obtain rfl := hv
                  refine g_st (st' := [_, _]) rfl ?_
                  refine g_topi (oC2.trans hn8A) ?_
                  refine g_icmp_ge X dL_changed_281 333 (by decide) rfl (fun h281 => absurd (nj_le (a := (n - (cnI P n))) (b := (k - (cnI P k))) (by omega) (by omega) h281) (by omega)) (fun h281 => ?_)
                  have i281 := nj_nle (a := (n - (cnI P n))) (b := (k - (cnI P k))) (by omega) (by omega) h281
                  refine g_sipush (v := (1000 : Int32)) X dL_changed_284 (by decide) rfl ?_
                  refine g_aload_n X dL_changed_287 rfl 10 rfl rfl ?_
                  refine g_iload X dL_changed_288 0 rfl rfl ?_
                  refine g_iconst (v := (0 : Int32)) X dL_changed_290 (by decide) rfl ?_
                  refine g_callVRX (w0 := [(q2, .inl (D.2.1, 8, .inl F2)), (q1, .inl (D.2.1, 8, .inl F1))]) (n := 2) (As := [_, _]) (rest := [_]) X (c_X6_note l D a fA naA wA td vl L pt fl kd kpA (fqa pqA) (fqa ps) (tlW D pqA ps) mk (n - (cnI P n)) b hWA hNRA _ _) gL_changed_X6_note rfl (by decide +kernel) ⟨Nat.le_of_ble_eq_true rfl, Nat.le_of_ble_eq_true rfl⟩ 20 rfl rfl rfl rfl rfl (Nat.le_of_ble_eq_true rfl) dL_changed_291 ⟨Nat.le_of_ble_eq_true rfl, Nat.le_of_ble_eq_true rfl⟩ rfl (fun v hv => ?_)
                  obtain rfl := hv
                  refine g_st (st' := [_, _]) rfl ?_
                  refine g_topi (oNt (k := (k - (cnI P k))) 0 eN2A (by omega) hm8A rfl (by decide)) ?_
                  refine g_topi ((hrow k i163 hPt 0 (by omega))) ?_
                  refine g_imul X dL_changed_294 rfl ?_
                  refine g_bipush (v := (100 : Int32)) X dL_changed_295 (by decide) rfl ?_
                  refine g_aload_n X dL_changed_297 rfl 10 rfl rfl ?_
                  refine g_iload X dL_changed_298 0 rfl rfl ?_
                  refine g_iconst (v := (1 : Int32)) X dL_changed_300 (by decide) rfl ?_
                  refine g_callVRX (w0 := [(q2, .inl (D.2.1, 8, .inl F2)), (q1, .inl (D.2.1, 8, .inl F1))]) (n := 2) (As := [_, _]) (rest := [_, _]) X (c_X6_note l D a fA naA wA td vl L pt fl kd kpA (fqa pqA) (fqa ps) (tlW D pqA ps) mk (n - (cnI P n)) b hWA hNRA _ _) gL_changed_X6_note rfl (by decide +kernel) ⟨Nat.le_of_ble_eq_true rfl, Nat.le_of_ble_eq_true rfl⟩ 20 rfl rfl rfl rfl rfl (Nat.le_of_ble_eq_true rfl) dL_changed_301 ⟨Nat.le_of_ble_eq_true rfl, Nat.le_of_ble_eq_true rfl⟩ rfl (fun v hv => ?_)
                  obtain rfl := hv
                  refine g_st (st' := [_, _, _]) rfl ?_
                  refine g_topi (oNt (k := (k - (cnI P k))) 1 eN2A (by omega) hm8A rfl (by decide)) ?_
                  refine g_topi ((hrow k i163 hPt 1 (by omega))) ?_
                  refine g_imul X dL_changed_304 rfl ?_
                  refine g_iadd X dL_changed_305 rfl ?_
                  refine g_bipush (v := (20 : Int32)) X dL_changed_306 (by decide) rfl ?_
                  refine g_aload_n X dL_changed_308 rfl 10 rfl rfl ?_
                  refine g_iload X dL_changed_309 0 rfl rfl ?_
                  refine g_iconst (v := (2 : Int32)) X dL_changed_311 (by decide) rfl ?_
                  refine g_callVRX (w0 := [(q2, .inl (D.2.1, 8, .inl F2)), (q1, .inl (D.2.1, 8, .inl F1))]) (n := 2) (As := [_, _]) (rest := [_, _]) X (c_X6_note l D a fA naA wA td vl L pt fl kd kpA (fqa pqA) (fqa ps) (tlW D pqA ps) mk (n - (cnI P n)) b hWA hNRA _ _) gL_changed_X6_note rfl (by decide +kernel) ⟨Nat.le_of_ble_eq_true rfl, Nat.le_of_ble_eq_true rfl⟩ 20 rfl rfl rfl rfl rfl (Nat.le_of_ble_eq_true rfl) dL_changed_312 ⟨Nat.le_of_ble_eq_true rfl, Nat.le_of_ble_eq_true rfl⟩ rfl (fun v hv => ?_)
                  obtain rfl := hv
                  refine g_st (st' := [_, _, _]) rfl ?_
                  refine g_topi (oNt (k := (k - (cnI P k))) 2 eN2A (by omega) hm8A rfl (by decide)) ?_
                  refine g_topi ((hrow k i163 hPt 2 (by omega))) ?_
                  refine g_imul X dL_changed_315 rfl ?_
                  refine g_iadd X dL_changed_316 rfl ?_
                  refine g_aload_n X dL_changed_317 rfl 10 rfl rfl ?_
                  refine g_iload X dL_changed_318 0 rfl rfl ?_
                  refine g_iconst (v := (3 : Int32)) X dL_changed_320 (by decide) rfl ?_
                  refine g_callVRX (w0 := [(q2, .inl (D.2.1, 8, .inl F2)), (q1, .inl (D.2.1, 8, .inl F1))]) (n := 2) (As := [_, _]) (rest := [_]) X (c_X6_note l D a fA naA wA td vl L pt fl kd kpA (fqa pqA) (fqa ps) (tlW D pqA ps) mk (n - (cnI P n)) b hWA hNRA _ _) gL_changed_X6_note rfl (by decide +kernel) ⟨Nat.le_of_ble_eq_true rfl, Nat.le_of_ble_eq_true rfl⟩ 20 rfl rfl rfl rfl rfl (Nat.le_of_ble_eq_true rfl) dL_changed_321 ⟨Nat.le_of_ble_eq_true rfl, Nat.le_of_ble_eq_true rfl⟩ rfl (fun v hv => ?_)
                  obtain rfl := hv
                  refine g_st (st' := [_, _]) rfl ?_
                  refine g_topi (oNt (k := (k - (cnI P k))) 3 eN2A (by omega) hm8A rfl (by decide)) ?_
                  refine g_topi ((hrow k i163 hPt 3 (by omega))) ?_
                  refine g_iadd X dL_changed_324 rfl ?_
                  refine g_aload X dL_changed_325 6 rfl rfl ?_
                  refine g_iload X dL_changed_327 3 rfl rfl ?_
                  refine g_ldA0 (k := k) X dL_changed_329 rfl (by omega) rfl ?_
                  refine g_topi ((hF2 k (by omega))) ?_
                  refine g_icmp_eq X dL_changed_330 335 (by decide) rfl (fun h330 => ?_) (fun h330 => absurd rfl h330)
                  refine g_iinc (v := nI (k + 1)) X [(11, _), (14, _), (13, _), (12, _), (10, _), (9, _), (8, _), (7, _), (6, _), (5, _), (0, _), (1, _), (2, _), (3, _), (4, _)] dL_changed_335 3 rfl (nI_add k 1) (by decide) rfl rfl ?_
                  refine g_goto X dL_changed_338 159 (by decide) ?_
                  refine g_lve [(11, .int (nI (k + 1))), (14, .int (nI (k - (cnI P k)))), (13, .int (0)), (12, .int (nI t)), (10, .int (nI (cnI P (k + 1)))), (9, .int (nI (cnI P n))), (8, .ref (q2)), (7, .ref (q1)), (6, .int (f 81)), (5, .int (nI n)), (0, .ref (a 19)), (1, .int (nI p9)), (2, .int (-1)), (3, .int (gu)), (4, .int (b2i sm))] (by rw [cnI_f hPt]) ?_
                  refine g_lv [0, 4, 5, 6, 7, 8, 9, 10, 11, 12, 13, 14] [(11, _), (10, _), (9, _), (8, _), (7, _), (6, _), (5, _), (0, _), (1, _), (2, _), (3, _), (4, _)] rfl ?_
                  exact ih (n - (k + 1)) (by omega) (k + 1) (by omega) rfl
                · replace h246 := b2i_0 h246
                  refine g_iconst (v := (1 : Int32)) X dL_changed_249 (by decide) rfl ?_
                  refine g_goto X dL_changed_250 254 (by decide) ?_
                  refine g_istore X [(13, _), (12, _), (11, _), (10, _), (9, _), (8, _), (7, _), (6, _), (5, _), (0, _), (1, _), (2, _), (3, _), (4, _)] dL_changed_254 (by decide) rfl rfl ?_
                  have hPt : P k = true := by rw [hPv, h194, if_neg h203, if_neg h213, h246]; first | done | rfl
                  refine g_iload X dL_changed_256 0 rfl rfl ?_
                  refine g_if_eq X dL_changed_258 267 (by decide) rfl (fun h258 => absurd h258 (by decide)) (fun h258 => ?_)
                  refine g_iinc (v := nI ((cnI P k) + 1)) X [(10, _), (13, _), (12, _), (11, _), (9, _), (8, _), (7, _), (6, _), (5, _), (0, _), (1, _), (2, _), (3, _), (4, _)] dL_changed_261 3 rfl (nI_add (cnI P k) 1) (by decide) rfl rfl ?_
                  refine g_goto X dL_changed_264 335 (by decide) ?_
                  refine g_iinc (v := nI (k + 1)) X [(11, _), (10, _), (13, _), (12, _), (9, _), (8, _), (7, _), (6, _), (5, _), (0, _), (1, _), (2, _), (3, _), (4, _)] dL_changed_335 3 rfl (nI_add k 1) (by decide) rfl rfl ?_
                  refine g_goto X dL_changed_338 159 (by decide) ?_
                  refine g_lve [(11, .int (nI (k + 1))), (10, .int (nI (cnI P (k + 1)))), (13, .int (1)), (12, .int (nI t)), (9, .int (nI (cnI P n))), (8, .ref (q2)), (7, .ref (q1)), (6, .int (f 81)), (5, .int (nI n)), (0, .ref (a 19)), (1, .int (nI p9)), (2, .int (-1)), (3, .int (gu)), (4, .int (b2i sm))] (by rw [cnI_t hPt]) ?_
                  refine g_lv [0, 1, 4, 5, 6, 7, 8, 9, 10, 11, 12, 13] [(11, _), (10, _), (9, _), (8, _), (7, _), (6, _), (5, _), (0, _), (1, _), (2, _), (3, _), (4, _)] rfl ?_
                  exact ih (n - (k + 1)) (by omega) (k + 1) (by omega) rfl
              · refine g_aload X dL_changed_216 4 rfl rfl ?_
                refine g_iload X dL_changed_218 1 rfl rfl ?_
                refine g_ldA0 (k := k) X dL_changed_220 rfl (by omega) rfl ?_
                refine g_topi (hky) ?_
                refine g_bipush (v := (20 : Int32)) X dL_changed_221 (by decide) rfl ?_
                refine g_irem X dL_changed_223 (by decide) rfl ?_
                refine g_topi (y := nI ((1000 * g + 100 * d + 20 * e9 + pp) % 20)) (nI_rem (a := (1000 * g + 100 * d + 20 * e9 + pp)) (b := 20) (by omega) (by omega)) ?_
                refine g_topi ((show nI ((1000 * g + 100 * d + 20 * e9 + pp) % 20) = nI pp from by rw [show (1000 * g + 100 * d + 20 * e9 + pp) % 20 = pp from by omega])) ?_
                refine g_iload_n X dL_changed_224 rfl 9 rfl rfl ?_
                refine g_icmp_ne X dL_changed_225 253 (by decide) rfl (fun h225 => ?_) (fun h225 => ?_)
                · have i225 := nj_ne (a := pp) (b := p9) (by omega) (by omega) h225
                  refine g_iconst (v := (0 : Int32)) X dL_changed_253 (by decide) rfl ?_
                  refine g_istore X [(13, _), (12, _), (11, _), (10, _), (9, _), (8, _), (7, _), (6, _), (5, _), (0, _), (1, _), (2, _), (3, _), (4, _)] dL_changed_254 (by decide) rfl rfl ?_
                  have hPt : P k = false := by rw [hPv, h194, if_neg h203, if_pos h213, en3, epp, decide_eq_false (fun z => i225 (nj_eq (by omega) (by omega) z))]; first | done | rfl
                  refine g_iload X dL_changed_256 0 rfl rfl ?_
                  refine g_if_eq X dL_changed_258 267 (by decide) rfl (fun h258 => ?_) (fun h258 => absurd h258 (by decide))
                  refine g_iload X dL_changed_267 2 rfl rfl ?_
                  refine g_iload X dL_changed_269 3 rfl rfl ?_
                  refine g_isub X dL_changed_271 rfl ?_
                  refine g_topi (y := nI (k - (cnI P k))) (pk_sub (a := k) (b := (cnI P k)) (by omega)) ?_
                  refine g_istore X [(14, _), (13, _), (12, _), (11, _), (10, _), (9, _), (8, _), (7, _), (6, _), (5, _), (0, _), (1, _), (2, _), (3, _), (4, _)] dL_changed_272 (by decide) rfl rfl ?_
                  have hjl := cnI_kp (P := P) i163 hPt
                  refine g_iload X dL_changed_274 0 rfl rfl ?_
                  refine g_aload_n X dL_changed_276 rfl 10 rfl rfl ?_
                  refine g_iconst (v := (2 : Int32)) X dL_changed_277 (by decide) rfl ?_
                  refine g_callVRX (w0 := [(q2, .inl (D.2.1, 8, .inl F2)), (q1, .inl (D.2.1, 8, .inl F1))]) (n := 1) (As := [_]) (rest := [_]) X (c_X6_count l D a fA naA wA td vl L pt fl kd kpA (fqa pqA) (fqa ps) (tlW D pqA ps) mk (n - (cnI P n)) b hWA hNRA _) gL_changed_X6_count rfl (by decide +kernel) ⟨Nat.le_of_ble_eq_true rfl, Nat.le_of_ble_eq_true rfl⟩ 20 rfl rfl rfl rfl rfl (Nat.le_of_ble_eq_true rfl) dL_changed_278 ⟨Nat.le_of_ble_eq_true rfl, Nat.le_of_ble_eq_true rfl⟩ rfl (fun v hv => ?_)
                  obtain rfl := hv
                  refine g_st (st' := [_, _]) rfl ?_
                  refine g_topi (oC2.trans hn8A) ?_
                  refine g_icmp_ge X dL_changed_281 333 (by decide) rfl (fun h281 => absurd (nj_le (a := (n - (cnI P n))) (b := (k - (cnI P k))) (by omega) (by omega) h281) (by omega)) (fun h281 => ?_)
                  have i281 := nj_nle (a := (n - (cnI P n))) (b := (k - (cnI P k))) (by omega) (by omega) h281
                  refine g_sipush (v := (1000 : Int32)) X dL_changed_284 (by decide) rfl ?_
                  refine g_aload_n X dL_changed_287 rfl 10 rfl rfl ?_
                  refine g_iload X dL_changed_288 0 rfl rfl ?_
                  refine g_iconst (v := (0 : Int32)) X dL_changed_290 (by decide) rfl ?_
                  refine g_callVRX (w0 := [(q2, .inl (D.2.1, 8, .inl F2)), (q1, .inl (D.2.1, 8, .inl F1))]) (n := 2) (As := [_, _]) (rest := [_]) X (c_X6_note l D a fA naA wA td vl L pt fl kd kpA (fqa pqA) (fqa ps) (tlW D pqA ps) mk (n - (cnI P n)) b hWA hNRA _ _) gL_changed_X6_note rfl (by decide +kernel) ⟨Nat.le_of_ble_eq_true rfl, Nat.le_of_ble_eq_true rfl⟩ 20 rfl rfl rfl rfl rfl (Nat.le_of_ble_eq_true rfl) dL_changed_291 ⟨Nat.le_of_ble_eq_true rfl, Nat.le_of_ble_eq_true rfl⟩ rfl (fun v hv => ?_)
                  obtain rfl := hv
                  refine g_st (st' := [_, _]) rfl ?_
                  refine g_topi (oNt (k := (k - (cnI P k))) 0 eN2A (by omega) hm8A rfl (by decide)) ?_
                  refine g_topi ((hrow k i163 hPt 0 (by omega))) ?_
                  refine g_imul X dL_changed_294 rfl ?_
                  refine g_bipush (v := (100 : Int32)) X dL_changed_295 (by decide) rfl ?_
                  refine g_aload_n X dL_changed_297 rfl 10 rfl rfl ?_
                  refine g_iload X dL_changed_298 0 rfl rfl ?_
                  refine g_iconst (v := (1 : Int32)) X dL_changed_300 (by decide) rfl ?_
                  refine g_callVRX (w0 := [(q2, .inl (D.2.1, 8, .inl F2)), (q1, .inl (D.2.1, 8, .inl F1))]) (n := 2) (As := [_, _]) (rest := [_, _]) X (c_X6_note l D a fA naA wA td vl L pt fl kd kpA (fqa pqA) (fqa ps) (tlW D pqA ps) mk (n - (cnI P n)) b hWA hNRA _ _) gL_changed_X6_note rfl (by decide +kernel) ⟨Nat.le_of_ble_eq_true rfl, Nat.le_of_ble_eq_true rfl⟩ 20 rfl rfl rfl rfl rfl (Nat.le_of_ble_eq_true rfl) dL_changed_301 ⟨Nat.le_of_ble_eq_true rfl, Nat.le_of_ble_eq_true rfl⟩ rfl (fun v hv => ?_)
                  obtain rfl := hv
                  refine g_st (st' := [_, _, _]) rfl ?_
                  refine g_topi (oNt (k := (k - (cnI P k))) 1 eN2A (by omega) hm8A rfl (by decide)) ?_
                  refine g_topi ((hrow k i163 hPt 1 (by omega))) ?_
                  refine g_imul X dL_changed_304 rfl ?_
                  refine g_iadd X dL_changed_305 rfl ?_
                  refine g_bipush (v := (20 : Int32)) X dL_changed_306 (by decide) rfl ?_
                  refine g_aload_n X dL_changed_308 rfl 10 rfl rfl ?_
                  refine g_iload X dL_changed_309 0 rfl rfl ?_
                  refine g_iconst (v := (2 : Int32)) X dL_changed_311 (by decide) rfl ?_
                  refine g_callVRX (w0 := [(q2, .inl (D.2.1, 8, .inl F2)), (q1, .inl (D.2.1, 8, .inl F1))]) (n := 2) (As := [_, _]) (rest := [_, _]) X (c_X6_note l D a fA naA wA td vl L pt fl kd kpA (fqa pqA) (fqa ps) (tlW D pqA ps) mk (n - (cnI P n)) b hWA hNRA _ _) gL_changed_X6_note rfl (by decide +kernel) ⟨Nat.le_of_ble_eq_true rfl, Nat.le_of_ble_eq_true rfl⟩ 20 rfl rfl rfl rfl rfl (Nat.le_of_ble_eq_true rfl) dL_changed_312 ⟨Nat.le_of_ble_eq_true rfl, Nat.le_of_ble_eq_true rfl⟩ rfl (fun v hv => ?_)
                  obtain rfl := hv
                  refine g_st (st' := [_, _, _]) rfl ?_
                  refine g_topi (oNt (k := (k - (cnI P k))) 2 eN2A (by omega) hm8A rfl (by decide)) ?_
                  refine g_topi ((hrow k i163 hPt 2 (by omega))) ?_
                  refine g_imul X dL_changed_315 rfl ?_
                  refine g_iadd X dL_changed_316 rfl ?_
                  refine g_aload_n X dL_changed_317 rfl 10 rfl rfl ?_
                  refine g_iload X dL_changed_318 0 rfl rfl ?_
                  refine g_iconst (v := (3 : Int32)) X dL_changed_320 (by decide) rfl ?_
                  refine g_callVRX (w0 := [(q2, .inl (D.2.1, 8, .inl F2)), (q1, .inl (D.2.1, 8, .inl F1))]) (n := 2) (As := [_, _]) (rest := [_]) X (c_X6_note l D a fA naA wA td vl L pt fl kd kpA (fqa pqA) (fqa ps) (tlW D pqA ps) mk (n - (cnI P n)) b hWA hNRA _ _) gL_changed_X6_note rfl (by decide +kernel) ⟨Nat.le_of_ble_eq_true rfl, Nat.le_of_ble_eq_true rfl⟩ 20 rfl rfl rfl rfl rfl (Nat.le_of_ble_eq_true rfl) dL_changed_321 ⟨Nat.le_of_ble_eq_true rfl, Nat.le_of_ble_eq_true rfl⟩ rfl (fun v hv => ?_)
                  obtain rfl := hv
                  refine g_st (st' := [_, _]) rfl ?_
                  refine g_topi (oNt (k := (k - (cnI P k))) 3 eN2A (by omega) hm8A rfl (by decide)) ?_
                  refine g_topi ((hrow k i163 hPt 3 (by omega))) ?_
                  refine g_iadd X dL_changed_324 rfl ?_
                  refine g_aload X dL_changed_325 6 rfl rfl ?_
                  refine g_iload X dL_changed_327 3 rfl rfl ?_
                  refine g_ldA0 (k := k) X dL_changed_329 rfl (by omega) rfl ?_
                  refine g_topi ((hF2 k (by omega))) ?_
                  refine g_icmp_eq X dL_changed_330 335 (by decide) rfl (fun h330 => ?_) (fun h330 => absurd rfl h330)
                  refine g_iinc (v := nI (k + 1)) X [(11, _), (14, _), (13, _), (12, _), (10, _), (9, _), (8, _), (7, _), (6, _), (5, _), (0, _), (1, _), (2, _), (3, _), (4, _)] dL_changed_335 3 rfl (nI_add k 1) (by decide) rfl rfl ?_
                  refine g_goto X dL_changed_338 159 (by decide) ?_
                  refine g_lve [(11, .int (nI (k + 1))), (14, .int (nI (k - (cnI P k)))), (13, .int (0)), (12, .int (nI t)), (10, .int (nI (cnI P (k + 1)))), (9, .int (nI (cnI P n))), (8, .ref (q2)), (7, .ref (q1)), (6, .int (f 81)), (5, .int (nI n)), (0, .ref (a 19)), (1, .int (nI p9)), (2, .int (-1)), (3, .int (gu)), (4, .int (b2i sm))] (by rw [cnI_f hPt]) ?_
                  refine g_lv [0, 4, 5, 6, 7, 8, 9, 10, 11, 12, 13, 14] [(11, _), (10, _), (9, _), (8, _), (7, _), (6, _), (5, _), (0, _), (1, _), (2, _), (3, _), (4, _)] rfl ?_
                  exact ih (n - (k + 1)) (by omega) (k + 1) (by omega) rfl
                · have i225 := nj_eq (a := pp) (b := p9) (by omega) (by omega) h225
                  refine g_goto X dL_changed_228 249 (by decide) ?_
                  refine g_iconst (v := (1 : Int32)) X dL_changed_249 (by decide) rfl ?_
                  refine g_goto X dL_changed_250 254 (by decide) ?_
                  refine g_istore X [(13, _), (12, _), (11, _), (10, _), (9, _), (8, _), (7, _), (6, _), (5, _), (0, _), (1, _), (2, _), (3, _), (4, _)] dL_changed_254 (by decide) rfl rfl ?_
                  have hPt : P k = true := by rw [hPv, h194, if_neg h203, if_pos h213, en3, epp, decide_eq_true (p := nI pp = nI p9) (by rw [i225])]; first | done | rfl
                  refine g_iload X dL_changed_256 0 rfl rfl ?_
                  refine g_if_eq X dL_changed_258 267 (by decide) rfl (fun h258 => absurd h258 (by decide)) (fun h258 => ?_)
                  refine g_iinc (v := nI ((cnI P k) + 1)) X [(10, _), (13, _), (12, _), (11, _), (9, _), (8, _), (7, _), (6, _), (5, _), (0, _), (1, _), (2, _), (3, _), (4, _)] dL_changed_261 3 rfl (nI_add (cnI P k) 1) (by decide) rfl rfl ?_
                  refine g_goto X dL_changed_264 335 (by decide) ?_
                  refine g_iinc (v := nI (k + 1)) X [(11, _), (10, _), (13, _), (12, _), (9, _), (8, _), (7, _), (6, _), (5, _), (0, _), (1, _), (2, _), (3, _), (4, _)] dL_changed_335 3 rfl (nI_add k 1) (by decide) rfl rfl ?_
                  refine g_goto X dL_changed_338 159 (by decide) ?_
                  refine g_lve [(11, .int (nI (k + 1))), (10, .int (nI (cnI P (k + 1)))), (13, .int (1)), (12, .int (nI t)), (9, .int (nI (cnI P n))), (8, .ref (q2)), (7, .ref (q1)), (6, .int (f 81)), (5, .int (nI n)), (0, .ref (a 19)), (1, .int (nI p9)), (2, .int (-1)), (3, .int (gu)), (4, .int (b2i sm))] (by rw [cnI_t hPt]) ?_
                  refine g_lv [0, 1, 4, 5, 6, 7, 8, 9, 10, 11, 12, 13] [(11, _), (10, _), (9, _), (8, _), (7, _), (6, _), (5, _), (0, _), (1, _), (2, _), (3, _), (4, _)] rfl ?_
                  exact ih (n - (k + 1)) (by omega) (k + 1) (by omega) rfl
      exact L159 n 0 (by omega) rfl
    · have i34 := nj_nle (a := n) (b := i) (by omega) (by omega) h34
      refine g_aload_n X dL_changed_37 rfl 5 rfl rfl ?_
      refine g_aload_n X dL_changed_38 rfl 5 rfl rfl ?_
      refine g_iload X dL_changed_39 0 rfl rfl ?_
      refine g_iconst (v := (0 : Int32)) X dL_changed_41 (by decide) rfl ?_
      refine g_callVRX (w0 := [(q2, .inl (D.2.1, 8, .inl F2)), (q1, .inl (D.2.1, 8, .inl F1))]) (n := 2) (As := [_, _]) (rest := [_]) X (c_X6_note l D a f na w td vl L pt fl kd kp (fqa pq) (fqa ps) (tlW D pq ps) mk n b hW hNR _ _) gL_changed_X6_note rfl (by decide +kernel) ⟨Nat.le_of_ble_eq_true rfl, Nat.le_of_ble_eq_true rfl⟩ 20 rfl rfl rfl rfl rfl (Nat.le_of_ble_eq_true rfl) dL_changed_42 ⟨Nat.le_of_ble_eq_true rfl, Nat.le_of_ble_eq_true rfl⟩ rfl (fun v hv => ?_)
      obtain rfl := hv
      refine g_st (st' := [_, _]) rfl ?_
      refine g_topi (oNt (k := i) 0 eN2 (by omega) hm8 rfl (by decide)) ?_
      obtain ⟨g, d, e9, t, hg, hd, he, ht, en0, en1, en2, el, en3, eh, eg, er⟩ := hNt.ok eN2 i34
      rw [eN1] at ht
      refine g_topi (en0) ?_
      refine g_aload_n X dL_changed_45 rfl 5 rfl rfl ?_
      refine g_iload X dL_changed_46 0 rfl rfl ?_
      refine g_iconst (v := (1 : Int32)) X dL_changed_48 (by decide) rfl ?_
      refine g_callVRX (w0 := [(q2, .inl (D.2.1, 8, .inl F2)), (q1, .inl (D.2.1, 8, .inl F1))]) (n := 2) (As := [_, _]) (rest := [_, _]) X (c_X6_note l D a f na w td vl L pt fl kd kp (fqa pq) (fqa ps) (tlW D pq ps) mk n b hW hNR _ _) gL_changed_X6_note rfl (by decide +kernel) ⟨Nat.le_of_ble_eq_true rfl, Nat.le_of_ble_eq_true rfl⟩ 20 rfl rfl rfl rfl rfl (Nat.le_of_ble_eq_true rfl) dL_changed_49 ⟨Nat.le_of_ble_eq_true rfl, Nat.le_of_ble_eq_true rfl⟩ rfl (fun v hv => ?_)
      obtain rfl := hv
      refine g_st (st' := [_, _, _]) rfl ?_
      refine g_topi (oNt (k := i) 1 eN2 (by omega) hm8 rfl (by decide)) ?_
      refine g_topi (en1) ?_
      refine g_callVRX (w0 := [(q2, .inl (D.2.1, 8, .inl F2)), (q1, .inl (D.2.1, 8, .inl F1))]) (n := 2) (As := [_, _]) (rest := []) X (c_X6_leads l D a f na w td vl L pt fl kd kp (fqa pq) (fqa ps) (tlW D pq ps) mk n b hW hNR _ _) gL_changed_X6_leads rfl (by decide +kernel) ⟨Nat.le_of_ble_eq_true rfl, Nat.le_of_ble_eq_true rfl⟩ 20 rfl rfl rfl rfl rfl (Nat.le_of_ble_eq_true rfl) dL_changed_52 ⟨Nat.le_of_ble_eq_true rfl, Nat.le_of_ble_eq_true rfl⟩ rfl (fun v hv => ?_)
      obtain rfl := hv
      refine g_st (st' := [_]) rfl ?_
      refine g_topi (oLd (g := g) (d := d) (by omega) (by omega)) ?_
      refine g_topi (el) ?_
      refine g_istore X [(10, _), (9, _), (8, _), (7, _), (6, _), (5, _), (0, _), (1, _), (2, _), (3, _), (4, _)] dL_changed_55 (by decide) rfl rfl ?_
      refine g_aload X dL_changed_57 3 rfl rfl ?_
      refine g_iload X dL_changed_59 1 rfl rfl ?_
      refine g_iload X dL_changed_61 0 rfl rfl ?_
      refine g_if_lt X dL_changed_63 79 (by decide) rfl (fun h63 => absurd h63 (nI_pos (by omega))) (fun h63 => ?_)
      have i63 := nj_nlt (a := t) (b := 0) (by omega) (by omega) h63
      refine g_aload_n X dL_changed_66 rfl 6 rfl rfl ?_
      refine g_iload X dL_changed_67 0 rfl rfl ?_
      refine g_callSRX (w0 := [(q2, .inl (D.2.1, 8, .inl F2)), (q1, .inl (D.2.1, 8, .inl F1))]) (n := 2) (As := [_, _]) (rest := [_, _]) X (c_L_good l D a f na w td vl L pt fl kd kp (fqa pq) (fqa ps) (tlW D pq ps) mk n b hW hNR t (by omega)) gL_changed_L_good rfl (by decide +kernel) ⟨Nat.le_of_ble_eq_true rfl, Nat.le_of_ble_eq_true rfl⟩ rfl rfl rfl (Nat.le_of_ble_eq_true rfl) dL_changed_69 ⟨Nat.le_of_ble_eq_true rfl, Nat.le_of_ble_eq_true rfl⟩ rfl (fun v hv => ?_)
      obtain rfl := hv
      refine g_st (st' := [_, _, _]) rfl ?_
      refine g_topi ((show b2i (gd f t) = 1 from by rw [eg]; rfl)) ?_
      refine g_if_eq X dL_changed_72 79 (by decide) rfl (fun h72 => absurd h72 (by decide)) (fun h72 => ?_)
      refine g_iconst (v := (1 : Int32)) X dL_changed_75 (by decide) rfl ?_
      refine g_goto X dL_changed_76 80 (by decide) ?_
      refine g_stA1 (k := i) X rfl dL_changed_80 rfl (by omega) rfl ?_
      refine g_aload X dL_changed_81 2 rfl rfl ?_
      refine g_iload X dL_changed_83 1 rfl rfl ?_
      refine g_sipush (v := (1000 : Int32)) X dL_changed_85 (by decide) rfl ?_
      refine g_aload_n X dL_changed_88 rfl 6 rfl rfl ?_
      refine g_iload X dL_changed_89 1 rfl rfl ?_
      refine g_iconst (v := (0 : Int32)) X dL_changed_91 (by decide) rfl ?_
      refine g_callVRX (w0 := [(q2, .inl (D.2.1, 8, .inl F2)), (q1, .inl (D.2.1, 8, .inl (up F1 i ((1 : Int32)))))]) (n := 2) (As := [_, _]) (rest := [_, _, _]) X (c_X6_note l D a f na w td vl L pt fl kd kp (fqa pq) (fqa ps) (tlW D pq ps) mk n b hW hNR _ _) gL_changed_X6_note rfl (by decide +kernel) ⟨Nat.le_of_ble_eq_true rfl, Nat.le_of_ble_eq_true rfl⟩ 20 rfl rfl rfl rfl rfl (Nat.le_of_ble_eq_true rfl) dL_changed_92 ⟨Nat.le_of_ble_eq_true rfl, Nat.le_of_ble_eq_true rfl⟩ rfl (fun v hv => ?_)
      obtain rfl := hv
      refine g_st (st' := [_, _, _, _]) rfl ?_
      refine g_topi (oNt (k := i) 0 eN2 (by omega) hm8 rfl (by decide)) ?_
      refine g_imul X dL_changed_95 rfl ?_
      refine g_bipush (v := (100 : Int32)) X dL_changed_96 (by decide) rfl ?_
      refine g_aload_n X dL_changed_98 rfl 6 rfl rfl ?_
      refine g_iload X dL_changed_99 1 rfl rfl ?_
      refine g_iconst (v := (1 : Int32)) X dL_changed_101 (by decide) rfl ?_
      refine g_callVRX (w0 := [(q2, .inl (D.2.1, 8, .inl F2)), (q1, .inl (D.2.1, 8, .inl (up F1 i ((1 : Int32)))))]) (n := 2) (As := [_, _]) (rest := [_, _, _, _]) X (c_X6_note l D a f na w td vl L pt fl kd kp (fqa pq) (fqa ps) (tlW D pq ps) mk n b hW hNR _ _) gL_changed_X6_note rfl (by decide +kernel) ⟨Nat.le_of_ble_eq_true rfl, Nat.le_of_ble_eq_true rfl⟩ 20 rfl rfl rfl rfl rfl (Nat.le_of_ble_eq_true rfl) dL_changed_102 ⟨Nat.le_of_ble_eq_true rfl, Nat.le_of_ble_eq_true rfl⟩ rfl (fun v hv => ?_)
      obtain rfl := hv
      refine g_st (st' := [_, _, _, _, _]) rfl ?_
      refine g_topi (oNt (k := i) 1 eN2 (by omega) hm8 rfl (by decide)) ?_
      refine g_imul X dL_changed_105 rfl ?_
      refine g_iadd X dL_changed_106 rfl ?_
      refine g_bipush (v := (20 : Int32)) X dL_changed_107 (by decide) rfl ?_
      refine g_aload_n X dL_changed_109 rfl 6 rfl rfl ?_
      refine g_iload X dL_changed_110 1 rfl rfl ?_
      refine g_iconst (v := (2 : Int32)) X dL_changed_112 (by decide) rfl ?_
      refine g_callVRX (w0 := [(q2, .inl (D.2.1, 8, .inl F2)), (q1, .inl (D.2.1, 8, .inl (up F1 i ((1 : Int32)))))]) (n := 2) (As := [_, _]) (rest := [_, _, _, _]) X (c_X6_note l D a f na w td vl L pt fl kd kp (fqa pq) (fqa ps) (tlW D pq ps) mk n b hW hNR _ _) gL_changed_X6_note rfl (by decide +kernel) ⟨Nat.le_of_ble_eq_true rfl, Nat.le_of_ble_eq_true rfl⟩ 20 rfl rfl rfl rfl rfl (Nat.le_of_ble_eq_true rfl) dL_changed_113 ⟨Nat.le_of_ble_eq_true rfl, Nat.le_of_ble_eq_true rfl⟩ rfl (fun v hv => ?_)
      obtain rfl := hv
      refine g_st (st' := [_, _, _, _, _]) rfl ?_
      refine g_topi (oNt (k := i) 2 eN2 (by omega) hm8 rfl (by decide)) ?_
      refine g_imul X dL_changed_116 rfl ?_
      refine g_iadd X dL_changed_117 rfl ?_
      refine g_aload_n X dL_changed_118 rfl 6 rfl rfl ?_
      refine g_iload X dL_changed_119 1 rfl rfl ?_
      refine g_iconst (v := (3 : Int32)) X dL_changed_121 (by decide) rfl ?_
      refine g_callVRX (w0 := [(q2, .inl (D.2.1, 8, .inl F2)), (q1, .inl (D.2.1, 8, .inl (up F1 i ((1 : Int32)))))]) (n := 2) (As := [_, _]) (rest := [_, _, _]) X (c_X6_note l D a f na w td vl L pt fl kd kp (fqa pq) (fqa ps) (tlW D pq ps) mk n b hW hNR _ _) gL_changed_X6_note rfl (by decide +kernel) ⟨Nat.le_of_ble_eq_true rfl, Nat.le_of_ble_eq_true rfl⟩ 20 rfl rfl rfl rfl rfl (Nat.le_of_ble_eq_true rfl) dL_changed_122 ⟨Nat.le_of_ble_eq_true rfl, Nat.le_of_ble_eq_true rfl⟩ rfl (fun v hv => ?_)
      obtain rfl := hv
      refine g_st (st' := [_, _, _, _]) rfl ?_
      refine g_topi (oNt (k := i) 3 eN2 (by omega) hm8 rfl (by decide)) ?_
      refine g_iadd X dL_changed_125 rfl ?_
      refine g_stA0 (k := i) X rfl dL_changed_126 rfl (by omega) rfl ?_
      refine g_iinc (v := nI (i + 1)) X [(9, _), (10, _), (8, _), (7, _), (6, _), (5, _), (0, _), (1, _), (2, _), (3, _), (4, _)] dL_changed_127 1 rfl (nI_add i 1) (by decide) rfl rfl ?_
      refine g_goto X dL_changed_130 30 (by decide) ?_
      refine g_lv [0, 2, 3, 4, 5, 6, 7, 8, 9, 10] [(9, _), (8, _), (7, _), (6, _), (5, _), (0, _), (1, _), (2, _), (3, _), (4, _)] rfl ?_
      refine ih (n - (i + 1)) (by omega) (i + 1) _ _ (by omega) rfl (fun j hj => ?_) (fun j hj => ?_)
      · by_cases hji : j = i
        · rw [hji, up_s]
        · rw [up_n _ _ hji]; exact hF1 j (by omega)
      · by_cases hji : j = i
        · rw [hji, up_s]
        · rw [up_n _ _ hji]; exact hF2 j (by omega)
  exact L30 n 0 _ _ (by omega) rfl (fun j hj => absurd hj (Nat.not_lt_zero j)) (fun j hj => absurd hj (Nat.not_lt_zero j))

set_option maxHeartbeats 4000000 in
set_option maxRecDepth 100000 in
theorem c_L_changed_take (l : Launch) (D : DT) (a : Nat → Nat) (f : Nat → Int32) (na : Nat → Nat → Int32) (w td vl : Nat → Int32) (L pt fl : Nat) (kd : Int32) (kp : Nat) (pq ps : Nat → Option HH) (mk n b : Nat) (hW : WF f mk n b) (hNR : NR f na n) (hF : FB f) (hkp : kp ≤ 6) (l9 : List (Nat → Int32)) (hHL : HL kp pq l9) (cr : Nat) (hcr : cr ≤ 1000) (hS : SI cr f) (hL : L ≤ 80) (hch : ∀ k, k < L → ∃ ch : Nat, ch < 256 ∧ td k = nI ch) (p9 : Nat) (hp12 : p9 < 12) (q9 : Nat) (hq9 : q9 < mk) (h69 : ¬ ofM f q9 6 = 1) (ep9 : ofM f q9 0 = nI p9) : MW l yL_changed wsL_changed 6 141 18 356 D [.ref (a 19), .int (nI p9), .int (nI q9), .int (0), .int (0)] (wB D a f na w td vl L pt fl kd kp (fqa pq) (fqa ps) (tlW D pq ps)) (lwP D a ps (wB D a f na w td vl L pt fl kd kp (fqa pq) (fqa ps) (tlW D pq ps)) (cr)) := by
  obtain ⟨hmk, hm40, hn8, hb0, hb01, hb08, hn8b, hst, hno, how, hdo, hb0a, hb0c, hb0d, hb0z⟩ := id hW
  have hm8 : n ≤ 8 := by omega
  obtain ⟨eN1, eN2, -⟩ := hW.N
  have hNt := hS.1
  refine MW.of (cc := cL_changed) (maxL := 15) (ret := (some .boolean)) (lv := [(0, .ref (a 19)), (1, .int (nI p9)), (2, .int (nI q9)), (3, .int (0)), (4, .int (0))]) (by decide +kernel) rfl (Nat.le_of_ble_eq_true rfl) rfl ?_
  intro p e s m below meth c A hAe hAg X hr hmn
  refine g_aload_n X dL_changed_0 rfl 0 rfl rfl ?_
  refine g_iconst (v := (2 : Int32)) X dL_changed_1 (by decide) rfl ?_
  refine g_callVRX (w0 := []) (n := 1) (As := [_]) (rest := []) X (c_X6_count l D a f na w td vl L pt fl kd kp (fqa pq) (fqa ps) (tlW D pq ps) mk n b hW hNR _) gL_changed_X6_count rfl (by decide +kernel) ⟨Nat.le_of_ble_eq_true rfl, Nat.le_of_ble_eq_true rfl⟩ 20 rfl rfl rfl rfl rfl (Nat.le_of_ble_eq_true rfl) dL_changed_2 ⟨Nat.le_of_ble_eq_true rfl, Nat.le_of_ble_eq_true rfl⟩ rfl (fun v hv => ?_)
  obtain rfl := hv
  refine g_st (st' := [_]) rfl ?_
  refine g_topi (oC2.trans hn8) ?_
  refine g_istore X [(5, _), (0, _), (1, _), (2, _), (3, _), (4, _)] dL_changed_5 (by decide) rfl rfl ?_
  refine g_aload_n X dL_changed_7 rfl 1 rfl rfl ?_
  refine g_bipush (v := (7 : Int32)) X dL_changed_8 (by decide) rfl ?_
  refine g_callVRX (w0 := []) (n := 1) (As := [_]) (rest := []) X (c_X6_count l D a f na w td vl L pt fl kd kp (fqa pq) (fqa ps) (tlW D pq ps) mk n b hW hNR _) gL_changed_X6_count rfl (by decide +kernel) ⟨Nat.le_of_ble_eq_true rfl, Nat.le_of_ble_eq_true rfl⟩ 20 rfl rfl rfl rfl rfl (Nat.le_of_ble_eq_true rfl) dL_changed_10 ⟨Nat.le_of_ble_eq_true rfl, Nat.le_of_ble_eq_true rfl⟩ rfl (fun v hv => ?_)
  obtain rfl := hv
  refine g_st (st' := [_]) rfl ?_
  refine g_topi (oC7) ?_
  refine g_istore X [(6, _), (5, _), (0, _), (1, _), (2, _), (3, _), (4, _)] dL_changed_13 (by decide) rfl rfl ?_
  refine g_bipush (v := (8 : Int32)) X dL_changed_15 (by decide) rfl ?_
  refine g_newa_int (N := 8) X hAg rfl dL_changed_17 (List.mem_of_getElem? (l := wsL_changed) (i := 1) rfl) rfl (Nat.le_of_ble_eq_true rfl) ⟨Nat.le_of_ble_eq_true rfl, Nat.le_of_ble_eq_true rfl⟩ rfl (fun q1 => ?_)
  refine g_perm (ws' := ([(q1, .inl (D.2.1, 8, .inl (fun _ => 0)))] ++ wB D a f na w td vl L pt fl kd kp (fqa pq) (fqa ps) (tlW D pq ps))) (perm_last _ _) ?_
  refine g_astore X [(7, _), (6, _), (5, _), (0, _), (1, _), (2, _), (3, _), (4, _)] dL_changed_19 (by decide) rfl rfl ?_
  refine g_bipush (v := (8 : Int32)) X dL_changed_21 (by decide) rfl ?_
  refine g_newa_int (N := 8) X hAg rfl dL_changed_23 (List.mem_of_getElem? (l := wsL_changed) (i := 1) rfl) rfl (Nat.le_of_ble_eq_true rfl) ⟨Nat.le_of_ble_eq_true rfl, Nat.le_of_ble_eq_true rfl⟩ rfl (fun q2 => ?_)
  refine g_perm (ws' := ([(q2, .inl (D.2.1, 8, .inl (fun _ => 0))), (q1, .inl (D.2.1, 8, .inl (fun _ => 0)))] ++ wB D a f na w td vl L pt fl kd kp (fqa pq) (fqa ps) (tlW D pq ps))) (perm_last _ _) ?_
  refine g_astore X [(8, _), (7, _), (6, _), (5, _), (0, _), (1, _), (2, _), (3, _), (4, _)] dL_changed_25 (by decide) rfl rfl ?_
  refine g_iconst (v := (0 : Int32)) X dL_changed_27 (by decide) rfl ?_
  refine g_istore X [(9, _), (8, _), (7, _), (6, _), (5, _), (0, _), (1, _), (2, _), (3, _), (4, _)] dL_changed_28 (by decide) rfl rfl ?_
  have L30 : ∀ (jj i : Nat) (F1 F2 : Nat → Int32) (hi : i ≤ n) (hj : n - i = jj) (hF1 : ∀ j, j < i → F1 j = 1) (hF2 : ∀ j, j < i → F2 j = ((((1000 : Int32) * noteM f j 0) + ((100 : Int32) * noteM f j 1)) + ((20 : Int32) * noteM f j 2)) + noteM f j 3), GG p l e (wRoom 6 141 18 356) s m ([.ref (a 19), .int (nI p9), .int (nI q9), .int (0), .int (0)] : List Value).toArray below meth c D A 15 false 2 16 (MQ below (wrQ D (wB D a f na w td vl L pt fl kd kp (fqa pq) (fqa ps) (tlW D pq ps)) s.heap.size (lwP D a ps (wB D a f na w td vl L pt fl kd kp (fqa pq) (fqa ps) (tlW D pq ps)) (cr))) ([.ref (a 19), .int (nI p9), .int (nI q9), .int (0), .int (0)] : List Value).toArray s 18 356 (va_A (wB D a f na w td vl L pt fl kd kp (fqa pq) (fqa ps) (tlW D pq ps)) s.heap.size)) ([(q2, .inl (D.2.1, 8, .inl F2)), (q1, .inl (D.2.1, 8, .inl F1))] ++ wB D a f na w td vl L pt fl kd kp (fqa pq) (fqa ps) (tlW D pq ps)) 30 [(9, .int (nI i)), (8, .ref (q2)), (7, .ref (q1)), (6, .int (f 81)), (5, .int (nI n)), (0, .ref (a 19)), (1, .int (nI p9)), (2, .int (nI q9)), (3, .int (0)), (4, .int (0))] [] := by
    intro jj
    induction jj using Nat.strongRecOn with
    | _ jj ih =>
    intro i F1 F2 hi hj hF1 hF2
    refine g_iload X dL_changed_30 0 rfl rfl ?_
    refine g_iload X dL_changed_32 4 rfl rfl ?_
    refine g_icmp_ge X dL_changed_34 133 (by decide) rfl (fun h34 => ?_) (fun h34 => ?_)
    · have i34 := nj_le (a := n) (b := i) (by omega) (by omega) h34
      refine g_iload_n X dL_changed_133 rfl 7 rfl rfl ?_
      refine g_if_lt X dL_changed_134 145 (by decide) rfl (fun h134 => absurd h134 (nI_pos (by omega))) (fun h134 => ?_)
      have i134 := nj_nlt (a := q9) (b := 0) (by omega) (by omega) h134
      refine g_aload_n X dL_changed_137 rfl 5 rfl rfl ?_
      refine g_iload_n X dL_changed_138 rfl 7 rfl rfl ?_
      refine g_callVX (w0 := [(q2, .inl (D.2.1, 8, .inl F2)), (q1, .inl (D.2.1, 8, .inl F1))]) (n := 1) (As := [_]) (rest := []) X hAg rfl (c_X6_takeBack l D a f na w td vl L pt fl kd kp pq ps mk n b hW hNR hF hkp hHL.hq _) gL_changed_X6_takeBack rfl (by decide +kernel) ⟨Nat.le_of_ble_eq_true rfl, Nat.le_of_ble_eq_true rfl⟩ 20 rfl rfl rfl rfl rfl (Nat.le_of_ble_eq_true rfl) dL_changed_139 ⟨Nat.le_of_ble_eq_true rfl, Nat.le_of_ble_eq_true rfl⟩ rfl (fun v w9 hv => ?_)
      obtain ⟨rfl, fA, naA, wA, kpA, pqA, efA, hNA, hAA, hkpA, hHLA, ekA, rfl⟩ := ch_out hv hkp hHL hF ⟨_, hNR, hn8⟩
      have hADA := hAA
      refine ⟨hAA, ?_⟩
      refine g_st (st' := [_]) rfl ?_
      obtain ⟨P, hrx, hC, hfin, hSA⟩ := take_chg hW hq9 h69 ep9 hS
      rw [← efA] at hC hfin hSA
      obtain ⟨hWA, hld, h2e, h81e, hrow, hPk⟩ := id hC
      refine g_topi (hrx) ?_
      have hNRA := hNA.to hWA
      have hFA : FB fA := by rw [efA]; exact take_fb ⟨mk, n, b, hW⟩ hF
      obtain ⟨hmkA, hm40A, hn8A, hb0A, hb0A1, hb0A8, hn8Ab, hstA, hnoA, howA, hdoA, hb0Aa, hb0Ac, hb0Ad, hb0Az⟩ := id hWA
      have hm8A : (n - (cnI P n)) ≤ 8 := by omega
      obtain ⟨eN1A, eN2A, -⟩ := hWA.N
      refine g_goto X dL_changed_142 151 (by decide) ?_
      refine g_istore X [(9, _), (8, _), (7, _), (6, _), (5, _), (0, _), (1, _), (2, _), (3, _), (4, _)] dL_changed_151 (by decide) rfl rfl ?_
      refine g_iconst (v := (0 : Int32)) X dL_changed_153 (by decide) rfl ?_
      refine g_istore X [(10, _), (9, _), (8, _), (7, _), (6, _), (5, _), (0, _), (1, _), (2, _), (3, _), (4, _)] dL_changed_154 (by decide) rfl rfl ?_
      refine g_iconst (v := (0 : Int32)) X dL_changed_156 (by decide) rfl ?_
      refine g_istore X [(11, _), (10, _), (9, _), (8, _), (7, _), (6, _), (5, _), (0, _), (1, _), (2, _), (3, _), (4, _)] dL_changed_157 (by decide) rfl rfl ?_
      have L159 : ∀ (jj k : Nat) (hk : k ≤ n) (hj : n - k = jj), GG p l e (wRoom 6 141 18 356) s m ([.ref (a 19), .int (nI p9), .int (nI q9), .int (0), .int (0)] : List Value).toArray below meth c D A 15 false 18 356 (MQ below (wrQ D (wB D a f na w td vl L pt fl kd kp (fqa pq) (fqa ps) (tlW D pq ps)) s.heap.size (lwP D a ps (wB D a f na w td vl L pt fl kd kp (fqa pq) (fqa ps) (tlW D pq ps)) (cr))) ([.ref (a 19), .int (nI p9), .int (nI q9), .int (0), .int (0)] : List Value).toArray s 18 356 (va_A (wB D a f na w td vl L pt fl kd kp (fqa pq) (fqa ps) (tlW D pq ps)) s.heap.size)) ([(q2, .inl (D.2.1, 8, .inl F2)), (q1, .inl (D.2.1, 8, .inl F1))] ++ wB D a fA naA wA td vl L pt fl kd kpA (fqa pqA) (fqa ps) (tlW D pqA ps)) 159 [(11, .int (nI k)), (10, .int (nI (cnI P k))), (9, .int (nI (cnI P n))), (8, .ref (q2)), (7, .ref (q1)), (6, .int (f 81)), (5, .int (nI n)), (0, .ref (a 19)), (1, .int (nI p9)), (2, .int (nI q9)), (3, .int (0)), (4, .int (0))] [] := by
        intro jj
        induction jj using Nat.strongRecOn with
        | _ jj ih =>
        intro k hk hj
        have hcl := cnI_le P k
        have hcn := cnI_le P n
        refine g_iload X dL_changed_159 0 rfl rfl ?_
        refine g_iload X dL_changed_161 6 rfl rfl ?_
        refine g_icmp_ge X dL_changed_163 341 (by decide) rfl (fun h163 => ?_) (fun h163 => ?_)
        · have i163 := nj_le (a := n) (b := k) (by omega) (by omega) h163
          rw [show k = n from by omega]
          refine g_iload X dL_changed_341 2 rfl rfl ?_
          refine g_iload X dL_changed_343 1 rfl rfl ?_
          refine g_icmp_ne X dL_changed_345 407 (by decide) rfl (fun h345 => absurd rfl h345) (fun h345 => ?_)
          refine g_aload_n X dL_changed_348 rfl 7 rfl rfl ?_
          refine g_iconst (v := (2 : Int32)) X dL_changed_349 (by decide) rfl ?_
          refine g_callVRX (w0 := [(q2, .inl (D.2.1, 8, .inl F2)), (q1, .inl (D.2.1, 8, .inl F1))]) (n := 1) (As := [_]) (rest := []) X (c_X6_count l D a fA naA wA td vl L pt fl kd kpA (fqa pqA) (fqa ps) (tlW D pqA ps) mk (n - (cnI P n)) b hWA hNRA _) gL_changed_X6_count rfl (by decide +kernel) ⟨Nat.le_of_ble_eq_true rfl, Nat.le_of_ble_eq_true rfl⟩ 20 rfl rfl rfl rfl rfl (Nat.le_of_ble_eq_true rfl) dL_changed_350 ⟨Nat.le_of_ble_eq_true rfl, Nat.le_of_ble_eq_true rfl⟩ rfl (fun v hv => ?_)
          obtain rfl := hv
          refine g_st (st' := [_]) rfl ?_
          refine g_topi (oC2.trans hn8A) ?_
          refine g_iload X dL_changed_353 6 rfl rfl ?_
          refine g_iload X dL_changed_355 1 rfl rfl ?_
          refine g_isub X dL_changed_357 rfl ?_
          refine g_topi (y := nI (n - (cnI P n))) (pk_sub (a := n) (b := (cnI P n)) (by omega)) ?_
          refine g_icmp_ne X dL_changed_358 407 (by decide) rfl (fun h358 => absurd rfl h358) (fun h358 => ?_)
          refine g_aload_n X dL_changed_361 rfl 7 rfl rfl ?_
          refine g_bipush (v := (7 : Int32)) X dL_changed_362 (by decide) rfl ?_
          refine g_callVRX (w0 := [(q2, .inl (D.2.1, 8, .inl F2)), (q1, .inl (D.2.1, 8, .inl F1))]) (n := 1) (As := [_]) (rest := []) X (c_X6_count l D a fA naA wA td vl L pt fl kd kpA (fqa pqA) (fqa ps) (tlW D pqA ps) mk (n - (cnI P n)) b hWA hNRA _) gL_changed_X6_count rfl (by decide +kernel) ⟨Nat.le_of_ble_eq_true rfl, Nat.le_of_ble_eq_true rfl⟩ 20 rfl rfl rfl rfl rfl (Nat.le_of_ble_eq_true rfl) dL_changed_364 ⟨Nat.le_of_ble_eq_true rfl, Nat.le_of_ble_eq_true rfl⟩ rfl (fun v hv => ?_)
          obtain rfl := hv
          refine g_st (st' := [_]) rfl ?_
          refine g_topi (oC7) ?_
          refine g_topi (h81e) ?_
          refine g_iload X dL_changed_367 5 rfl rfl ?_
          refine g_iload X dL_changed_369 1 rfl rfl ?_
          refine g_iadd X dL_changed_371 rfl ?_
          refine g_icmp_ne X dL_changed_372 407 (by decide) rfl (fun h372 => absurd rfl h372) (fun h372 => ?_)
          refine g_iload_n X dL_changed_375 rfl 9 rfl rfl ?_
          refine g_if_lt X dL_changed_376 393 (by decide) rfl (fun h376 => absurd h376 (nI_pos (by omega))) (fun h376 => ?_)
          have i376 := nj_nlt (a := q9) (b := 0) (by omega) (by omega) h376
          refine g_aload_n X dL_changed_379 rfl 7 rfl rfl ?_
          refine g_iload_n X dL_changed_380 rfl 9 rfl rfl ?_
          refine g_bipush (v := (6 : Int32)) X dL_changed_381 (by decide) rfl ?_
          refine g_callVRX (w0 := [(q2, .inl (D.2.1, 8, .inl F2)), (q1, .inl (D.2.1, 8, .inl F1))]) (n := 2) (As := [_, _]) (rest := []) X (c_X6_ofStamp l D a fA naA wA td vl L pt fl kd kpA (fqa pqA) (fqa ps) (tlW D pqA ps) mk (n - (cnI P n)) b hWA hNRA _ _) gL_changed_X6_ofStamp rfl (by decide +kernel) ⟨Nat.le_of_ble_eq_true rfl, Nat.le_of_ble_eq_true rfl⟩ 20 rfl rfl rfl rfl rfl (Nat.le_of_ble_eq_true rfl) dL_changed_383 ⟨Nat.le_of_ble_eq_true rfl, Nat.le_of_ble_eq_true rfl⟩ rfl (fun v hv => ?_)
          obtain rfl := hv
          refine g_st (st' := [_]) rfl ?_
          refine g_topi (oSt (q := q9) 6 eN1A (by omega) hm40A rfl (by decide)) ?_
          refine g_topi (hfin) ?_
          refine g_iconst (v := (1 : Int32)) X dL_changed_386 (by decide) rfl ?_
          refine g_icmp_ne X dL_changed_387 407 (by decide) rfl (fun h387 => absurd h387 (by decide)) (fun h387 => ?_)
          refine g_goto X dL_changed_390 403 (by decide) ?_
          refine g_iconst (v := (1 : Int32)) X dL_changed_403 (by decide) rfl ?_
          refine g_goto X dL_changed_404 408 (by decide) ?_
          refine g_drop ?_
          refine g_retW X hr (by first | rfl | exact b2i_nar _) dL_changed_408 hAe ?_
          exact ⟨rfl, fA, naA, wA, td, vl, L, pt, fl, kd, kpA, pqA, ⟨⟨_, _, _, hWA⟩, ⟨_, hNRA, hn8A⟩, hFA, hSA, hL, hch, hkpA, _, hHLA⟩, hADA, rfl⟩
        · have i163 := nj_nle (a := n) (b := k) (by omega) (by omega) h163
          refine g_aload_n X dL_changed_166 rfl 7 rfl rfl ?_
          refine g_aload X dL_changed_167 3 rfl rfl ?_
          refine g_iload X dL_changed_169 0 rfl rfl ?_
          refine g_ldA0 (k := k) X dL_changed_171 rfl (by omega) rfl ?_
          obtain ⟨g, d, e9, t, hg, hd, he, ht, en0, en1, en2, el, en3, eh, eg, er⟩ := hNt.ok eN2 i163
          rw [eN1] at ht
          obtain ⟨⟨pp, hpp, epp⟩, -, -, -, -, -, -⟩ := id (hst t ht)
          have hlb : ledBy f k = nI t := (ledBy_of en0 en1 hg hd).trans el
          have hPv := hPk k i163 t ht hlb eg
          have he2 : 1 ≤ e9 ∧ e9 ≤ 2 := by omega
          have hky : F2 k = nI (1000 * g + 100 * d + 20 * e9 + pp) := by
            rw [hF2 k (by omega), en0, en1, en2, en3, epp, show (1000 : Int32) = nI 1000 from rfl, show (100 : Int32) = nI 100 from rfl, show (20 : Int32) = nI 20 from rfl, pk_mul, pk_mul, pk_mul, nI_add, nI_add, nI_add]
          refine g_topi (hky) ?_
          refine g_sipush (v := (1000 : Int32)) X dL_changed_172 (by decide) rfl ?_
          refine g_idiv X dL_changed_175 (by decide) rfl ?_
          refine g_topi (y := nI ((1000 * g + 100 * d + 20 * e9 + pp) / 1000)) (nI_div (a := (1000 * g + 100 * d + 20 * e9 + pp)) (b := 1000) (by omega) (by omega)) ?_
          refine g_topi ((show nI ((1000 * g + 100 * d + 20 * e9 + pp) / 1000) = nI g from by rw [show (1000 * g + 100 * d + 20 * e9 + pp) / 1000 = g from by omega])) ?_
          refine g_aload X dL_changed_176 3 rfl rfl ?_
          refine g_iload X dL_changed_178 0 rfl rfl ?_
          refine g_ldA0 (k := k) X dL_changed_180 rfl (by omega) rfl ?_
          refine g_topi (hky) ?_
          refine g_bipush (v := (100 : Int32)) X dL_changed_181 (by decide) rfl ?_
          refine g_idiv X dL_changed_183 (by decide) rfl ?_
          refine g_topi (y := nI ((1000 * g + 100 * d + 20 * e9 + pp) / 100)) (nI_div (a := (1000 * g + 100 * d + 20 * e9 + pp)) (b := 100) (by omega) (by omega)) ?_
          refine g_bipush (v := (10 : Int32)) X dL_changed_184 (by decide) rfl ?_
          refine g_irem X dL_changed_186 (by decide) rfl ?_
          refine g_topi (y := nI (((1000 * g + 100 * d + 20 * e9 + pp) / 100) % 10)) (nI_rem (a := ((1000 * g + 100 * d + 20 * e9 + pp) / 100)) (b := 10) (by omega) (by omega)) ?_
          refine g_topi ((show nI ((1000 * g + 100 * d + 20 * e9 + pp) / 100 % 10) = nI d from by rw [show (1000 * g + 100 * d + 20 * e9 + pp) / 100 % 10 = d from by omega])) ?_
          refine g_callVRX (w0 := [(q2, .inl (D.2.1, 8, .inl F2)), (q1, .inl (D.2.1, 8, .inl F1))]) (n := 2) (As := [_, _]) (rest := []) X (c_X6_leads l D a fA naA wA td vl L pt fl kd kpA (fqa pqA) (fqa ps) (tlW D pqA ps) mk (n - (cnI P n)) b hWA hNRA _ _) gL_changed_X6_leads rfl (by decide +kernel) ⟨Nat.le_of_ble_eq_true rfl, Nat.le_of_ble_eq_true rfl⟩ 20 rfl rfl rfl rfl rfl (Nat.le_of_ble_eq_true rfl) dL_changed_187 ⟨Nat.le_of_ble_eq_true rfl, Nat.le_of_ble_eq_true rfl⟩ rfl (fun v hv => ?_)
          obtain rfl := hv
          refine g_st (st' := [_]) rfl ?_
          refine g_topi (oLd (g := g) (d := d) (by omega) (by omega)) ?_
          refine g_topi (((hld g d hg hd).trans el)) ?_
          refine g_istore X [(12, _), (11, _), (10, _), (9, _), (8, _), (7, _), (6, _), (5, _), (0, _), (1, _), (2, _), (3, _), (4, _)] dL_changed_190 (by decide) rfl rfl ?_
          refine g_iload X dL_changed_192 12 rfl rfl ?_
          refine g_if_ne X dL_changed_194 253 (by decide) rfl (fun h194 => absurd h194 (by decide)) (fun h194 => ?_)
          refine g_aload_n X dL_changed_197 rfl 8 rfl rfl ?_
          refine g_bipush (v := (11 : Int32)) X dL_changed_198 (by decide) rfl ?_
          refine g_callVRX (w0 := [(q2, .inl (D.2.1, 8, .inl F2)), (q1, .inl (D.2.1, 8, .inl F1))]) (n := 1) (As := [_]) (rest := []) X (c_X6_count l D a fA naA wA td vl L pt fl kd kpA (fqa pqA) (fqa ps) (tlW D pqA ps) mk (n - (cnI P n)) b hWA hNRA _) gL_changed_X6_count rfl (by decide +kernel) ⟨Nat.le_of_ble_eq_true rfl, Nat.le_of_ble_eq_true rfl⟩ 20 rfl rfl rfl rfl rfl (Nat.le_of_ble_eq_true rfl) dL_changed_200 ⟨Nat.le_of_ble_eq_true rfl, Nat.le_of_ble_eq_true rfl⟩ rfl (fun v hv => ?_)
          obtain rfl := hv
          refine g_st (st' := [_]) rfl ?_
          refine g_topi (oC11) ?_
          refine g_topi (h2e) ?_
          refine g_if_eq X dL_changed_203 249 (by decide) rfl (fun h203 => ?_) (fun h203 => ?_)
          · refine g_iconst (v := (1 : Int32)) X dL_changed_249 (by decide) rfl ?_
            refine g_goto X dL_changed_250 254 (by decide) ?_
            refine g_istore X [(13, _), (12, _), (11, _), (10, _), (9, _), (8, _), (7, _), (6, _), (5, _), (0, _), (1, _), (2, _), (3, _), (4, _)] dL_changed_254 (by decide) rfl rfl ?_
            have hPt : P k = true := by rw [hPv, if_pos h203]; first | done | rfl
            refine g_iload X dL_changed_256 0 rfl rfl ?_
            refine g_if_eq X dL_changed_258 267 (by decide) rfl (fun h258 => absurd h258 (by decide)) (fun h258 => ?_)
            refine g_iinc (v := nI ((cnI P k) + 1)) X [(10, _), (13, _), (12, _), (11, _), (9, _), (8, _), (7, _), (6, _), (5, _), (0, _), (1, _), (2, _), (3, _), (4, _)] dL_changed_261 3 rfl (nI_add (cnI P k) 1) (by decide) rfl rfl ?_
            refine g_goto X dL_changed_264 335 (by decide) ?_
            refine g_iinc (v := nI (k + 1)) X [(11, _), (10, _), (13, _), (12, _), (9, _), (8, _), (7, _), (6, _), (5, _), (0, _), (1, _), (2, _), (3, _), (4, _)] dL_changed_335 3 rfl (nI_add k 1) (by decide) rfl rfl ?_
            refine g_goto X dL_changed_338 159 (by decide) ?_
            refine g_lve [(11, .int (nI (k + 1))), (10, .int (nI (cnI P (k + 1)))), (13, .int (1)), (12, .int (nI t)), (9, .int (nI (cnI P n))), (8, .ref (q2)), (7, .ref (q1)), (6, .int (f 81)), (5, .int (nI n)), (0, .ref (a 19)), (1, .int (nI p9)), (2, .int (nI q9)), (3, .int (0)), (4, .int (0))] (by rw [cnI_t hPt]) ?_
            refine g_lv [0, 1, 4, 5, 6, 7, 8, 9, 10, 11, 12, 13] [(11, _), (10, _), (9, _), (8, _), (7, _), (6, _), (5, _), (0, _), (1, _), (2, _), (3, _), (4, _)] rfl ?_
            exact ih (n - (k + 1)) (by omega) (k + 1) (by omega) rfl
          · refine g_aload_n X dL_changed_206 rfl 8 rfl rfl ?_
            refine g_bipush (v := (11 : Int32)) X dL_changed_207 (by decide) rfl ?_
            refine g_callVRX (w0 := [(q2, .inl (D.2.1, 8, .inl F2)), (q1, .inl (D.2.1, 8, .inl F1))]) (n := 1) (As := [_]) (rest := []) X (c_X6_count l D a fA naA wA td vl L pt fl kd kpA (fqa pqA) (fqa ps) (tlW D pqA ps) mk (n - (cnI P n)) b hWA hNRA _) gL_changed_X6_count rfl (by decide +kernel) ⟨Nat.le_of_ble_eq_true rfl, Nat.le_of_ble_eq_true rfl⟩ 20 rfl rfl rfl rfl rfl (Nat.le_of_ble_eq_true rfl) dL_changed_209 ⟨Nat.le_of_ble_eq_true rfl, Nat.le_of_ble_eq_true rfl⟩ rfl (fun v hv => ?_)
            obtain rfl := hv
            refine g_st (st' := [_]) rfl ?_
            refine g_topi (oC11) ?_
            refine g_topi (h2e) ?_
            refine g_iconst (v := (1 : Int32)) X dL_changed_212 (by decide) rfl ?_
            refine g_icmp_ne X dL_changed_213 231 (by decide) rfl (fun h213 => ?_) (fun h213 => ?_)
            · refine g_aload X dL_changed_231 5 rfl rfl ?_
              refine g_iload X dL_changed_233 1 rfl rfl ?_
              refine g_ldA1 (k := k) X dL_changed_235 rfl (by omega) rfl ?_
              refine g_topi ((hF1 k (by omega))) ?_
              refine g_iconst (v := (1 : Int32)) X dL_changed_236 (by decide) rfl ?_
              refine g_icmp_ne X dL_changed_237 253 (by decide) rfl (fun h237 => absurd h237 (by decide)) (fun h237 => ?_)
              refine g_aload_n X dL_changed_240 rfl 8 rfl rfl ?_
              refine g_iload X dL_changed_241 0 rfl rfl ?_
              refine g_callSRX (w0 := [(q2, .inl (D.2.1, 8, .inl F2)), (q1, .inl (D.2.1, 8, .inl F1))]) (n := 2) (As := [_, _]) (rest := []) X (c_L_good l D a fA naA wA td vl L pt fl kd kpA (fqa pqA) (fqa ps) (tlW D pqA ps) mk (n - (cnI P n)) b hWA hNRA t (by omega)) gL_changed_L_good rfl (by decide +kernel) ⟨Nat.le_of_ble_eq_true rfl, Nat.le_of_ble_eq_true rfl⟩ rfl rfl rfl (Nat.le_of_ble_eq_true rfl) dL_changed_243 ⟨Nat.le_of_ble_eq_true rfl, Nat.le_of_ble_eq_true rfl⟩ rfl (fun v hv => ?_)
              obtain rfl := hv
              refine g_st (st' := [_]) rfl ?_
              refine g_if_ne X dL_changed_246 253 (by decide) rfl (fun h246 => ?_) (fun h246 => ?_)
              · replace h246 := b2i_n0 h246
                refine g_iconst (v := (0 : Int32)) X dL_changed_253 (by decide) rfl ?_
                refine g_istore X [(13, _), (12, _), (11, _), (10, _), (9, _), (8, _), (7, _), (6, _), (5, _), (0, _), (1, _), (2, _), (3, _), (4, _)] dL_changed_254 (by decide) rfl rfl ?_
                have hPt : P k = false := by rw [hPv, if_neg h203, if_neg h213, h246]; first | done | rfl
                refine g_iload X dL_changed_256 0 rfl rfl ?_
                refine g_if_eq X dL_changed_258 267 (by decide) rfl (fun h258 => ?_) (fun h258 => absurd h258 (by decide))
                refine g_iload X dL_changed_267 2 rfl rfl ?_
                refine g_iload X dL_changed_269 3 rfl rfl ?_
                refine g_isub X dL_changed_271 rfl ?_
                refine g_topi (y := nI (k - (cnI P k))) (pk_sub (a := k) (b := (cnI P k)) (by omega)) ?_
                refine g_istore X [(14, _), (13, _), (12, _), (11, _), (10, _), (9, _), (8, _), (7, _), (6, _), (5, _), (0, _), (1, _), (2, _), (3, _), (4, _)] dL_changed_272 (by decide) rfl rfl ?_
                have hjl := cnI_kp (P := P) i163 hPt
                refine g_iload X dL_changed_274 0 rfl rfl ?_
                refine g_aload_n X dL_changed_276 rfl 10 rfl rfl ?_
                refine g_iconst (v := (2 : Int32)) X dL_changed_277 (by decide) rfl ?_
                refine g_callVRX (w0 := [(q2, .inl (D.2.1, 8, .inl F2)), (q1, .inl (D.2.1, 8, .inl F1))]) (n := 1) (As := [_]) (rest := [_]) X (c_X6_count l D a fA naA wA td vl L pt fl kd kpA (fqa pqA) (fqa ps) (tlW D pqA ps) mk (n - (cnI P n)) b hWA hNRA _) gL_changed_X6_count rfl (by decide +kernel) ⟨Nat.le_of_ble_eq_true rfl, Nat.le_of_ble_eq_true rfl⟩ 20 rfl rfl rfl rfl rfl (Nat.le_of_ble_eq_true rfl) dL_changed_278 ⟨Nat.le_of_ble_eq_true rfl, Nat.le_of_ble_eq_true rfl⟩ rfl (fun v hv => ?_)
                obtain rfl := hv
                refine g_st (st' := [_, _]) rfl ?_
                refine g_topi (oC2.trans hn8A) ?_
                refine g_icmp_ge X dL_changed_281 333 (by decide) rfl (fun h281 => absurd (nj_le (a := (n - (cnI P n))) (b := (k - (cnI P k))) (by omega) (by omega) h281) (by omega)) (fun h281 => ?_)
                have i281 := nj_nle (a := (n - (cnI P n))) (b := (k - (cnI P k))) (by omega) (by omega) h281
                refine g_sipush (v := (1000 : Int32)) X dL_changed_284 (by decide) rfl ?_
                refine g_aload_n X dL_changed_287 rfl 10 rfl rfl ?_
                refine g_iload X dL_changed_288 0 rfl rfl ?_
                refine g_iconst (v := (0 : Int32)) X dL_changed_290 (by decide) rfl ?_
                refine g_callVRX (w0 := [(q2, .inl (D.2.1, 8, .inl F2)), (q1, .inl (D.2.1, 8, .inl F1))]) (n := 2) (As := [_, _]) (rest := [_]) X (c_X6_note l D a fA naA wA td vl L pt fl kd kpA (fqa pqA) (fqa ps) (tlW D pqA ps) mk (n - (cnI P n)) b hWA hNRA _ _) gL_changed_X6_note rfl (by decide +kernel) ⟨Nat.le_of_ble_eq_true rfl, Nat.le_of_ble_eq_true rfl⟩ 20 rfl rfl rfl rfl rfl (Nat.le_of_ble_eq_true rfl) dL_changed_291 ⟨Nat.le_of_ble_eq_true rfl, Nat.le_of_ble_eq_true rfl⟩ rfl (fun v hv => ?_)
                obtain rfl := hv
                refine g_st (st' := [_, _]) rfl ?_
                refine g_topi (oNt (k := (k - (cnI P k))) 0 eN2A (by omega) hm8A rfl (by decide)) ?_
                refine g_topi ((hrow k i163 hPt 0 (by omega))) ?_
                refine g_imul X dL_changed_294 rfl ?_
                refine g_bipush (v := (100 : Int32)) X dL_changed_295 (by decide) rfl ?_
                refine g_aload_n X dL_changed_297 rfl 10 rfl rfl ?_
                refine g_iload X dL_changed_298 0 rfl rfl ?_
                refine g_iconst (v := (1 : Int32)) X dL_changed_300 (by decide) rfl ?_
                refine g_callVRX (w0 := [(q2, .inl (D.2.1, 8, .inl F2)), (q1, .inl (D.2.1, 8, .inl F1))]) (n := 2) (As := [_, _]) (rest := [_, _]) X (c_X6_note l D a fA naA wA td vl L pt fl kd kpA (fqa pqA) (fqa ps) (tlW D pqA ps) mk (n - (cnI P n)) b hWA hNRA _ _) gL_changed_X6_note rfl (by decide +kernel) ⟨Nat.le_of_ble_eq_true rfl, Nat.le_of_ble_eq_true rfl⟩ 20 rfl rfl rfl rfl rfl (Nat.le_of_ble_eq_true rfl) dL_changed_301 ⟨Nat.le_of_ble_eq_true rfl, Nat.le_of_ble_eq_true rfl⟩ rfl (fun v hv => ?_)
                obtain rfl := hv
                refine g_st (st' := [_, _, _]) rfl ?_
                refine g_topi (oNt (k := (k - (cnI P k))) 1 eN2A (by omega) hm8A rfl (by decide)) ?_
                refine g_topi ((hrow k i163 hPt 1 (by omega))) ?_
                refine g_imul X dL_changed_304 rfl ?_
                refine g_iadd X dL_changed_305 rfl ?_
                refine g_bipush (v := (20 : Int32)) X dL_changed_306 (by decide) rfl ?_
                refine g_aload_n X dL_changed_308 rfl 10 rfl rfl ?_
                refine g_iload X dL_changed_309 0 rfl rfl ?_
                refine g_iconst (v := (2 : Int32)) X dL_changed_311 (by decide) rfl ?_
                refine g_callVRX (w0 := [(q2, .inl (D.2.1, 8, .inl F2)), (q1, .inl (D.2.1, 8, .inl F1))]) (n := 2) (As := [_, _]) (rest := [_, _]) X (c_X6_note l D a fA naA wA td vl L pt fl kd kpA (fqa pqA) (fqa ps) (tlW D pqA ps) mk (n - (cnI P n)) b hWA hNRA _ _) gL_changed_X6_note rfl (by decide +kernel) ⟨Nat.le_of_ble_eq_true rfl, Nat.le_of_ble_eq_true rfl⟩ 20 rfl rfl rfl rfl rfl (Nat.le_of_ble_eq_true rfl) dL_changed_312 ⟨Nat.le_of_ble_eq_true rfl, Nat.le_of_ble_eq_true rfl⟩ rfl (fun v hv => ?_)
                obtain rfl := hv
                refine g_st (st' := [_, _, _]) rfl ?_
                refine g_topi (oNt (k := (k - (cnI P k))) 2 eN2A (by omega) hm8A rfl (by decide)) ?_
                refine g_topi ((hrow k i163 hPt 2 (by omega))) ?_
                refine g_imul X dL_changed_315 rfl ?_
                refine g_iadd X dL_changed_316 rfl ?_
                refine g_aload_n X dL_changed_317 rfl 10 rfl rfl ?_
                refine g_iload X dL_changed_318 0 rfl rfl ?_
                refine g_iconst (v := (3 : Int32)) X dL_changed_320 (by decide) rfl ?_
                refine g_callVRX (w0 := [(q2, .inl (D.2.1, 8, .inl F2)), (q1, .inl (D.2.1, 8, .inl F1))]) (n := 2) (As := [_, _]) (rest := [_]) X (c_X6_note l D a fA naA wA td vl L pt fl kd kpA (fqa pqA) (fqa ps) (tlW D pqA ps) mk (n - (cnI P n)) b hWA hNRA _ _) gL_changed_X6_note rfl (by decide +kernel) ⟨Nat.le_of_ble_eq_true rfl, Nat.le_of_ble_eq_true rfl⟩ 20 rfl rfl rfl rfl rfl (Nat.le_of_ble_eq_true rfl) dL_changed_321 ⟨Nat.le_of_ble_eq_true rfl, Nat.le_of_ble_eq_true rfl⟩ rfl (fun v hv => ?_)
                obtain rfl := hv
                refine g_st (st' := [_, _]) rfl ?_
                refine g_topi (oNt (k := (k - (cnI P k))) 3 eN2A (by omega) hm8A rfl (by decide)) ?_
                refine g_topi ((hrow k i163 hPt 3 (by omega))) ?_
                refine g_iadd X dL_changed_324 rfl ?_
                refine g_aload X dL_changed_325 6 rfl rfl ?_
                refine g_iload X dL_changed_327 3 rfl rfl ?_
                refine g_ldA0 (k := k) X dL_changed_329 rfl (by omega) rfl ?_
                refine g_topi ((hF2 k (by omega))) ?_
                refine g_icmp_eq X dL_changed_330 335 (by decide) rfl (fun h330 => ?_) (fun h330 => absurd rfl h330)
                refine g_iinc (v := nI (k + 1)) X [(11, _), (14, _), (13, _), (12, _), (10, _), (9, _), (8, _), (7, _), (6, _), (5, _), (0, _), (1, _), (2, _), (3, _), (4, _)] dL_changed_335 3 rfl (nI_add k 1) (by decide) rfl rfl ?_
                refine g_goto X dL_changed_338 159 (by decide) ?_
                refine g_lve [(11, .int (nI (k + 1))), (14, .int (nI (k - (cnI P k)))), (13, .int (0)), (12, .int (nI t)), (10, .int (nI (cnI P (k + 1)))), (9, .int (nI (cnI P n))), (8, .ref (q2)), (7, .ref (q1)), (6, .int (f 81)), (5, .int (nI n)), (0, .ref (a 19)), (1, .int (nI p9)), (2, .int (nI q9)), (3, .int (0)), (4, .int (0))] (by rw [cnI_f hPt]) ?_
                refine g_lv [0, 4, 5, 6, 7, 8, 9, 10, 11, 12, 13, 14] [(11, _), (10, _), (9, _), (8, _), (7, _), (6, _), (5, _), (0, _), (1, _), (2, _), (3, _), (4, _)] rfl ?_
                exact ih (n - (k + 1)) (by omega) (k + 1) (by omega) rfl
              · replace h246 := b2i_0 h246
                refine g_iconst (v := (1 : Int32)) X dL_changed_249 (by decide) rfl ?_
                refine g_goto X dL_changed_250 254 (by decide) ?_
                refine g_istore X [(13, _), (12, _), (11, _), (10, _), (9, _), (8, _), (7, _), (6, _), (5, _), (0, _), (1, _), (2, _), (3, _), (4, _)] dL_changed_254 (by decide) rfl rfl ?_
                have hPt : P k = true := by rw [hPv, if_neg h203, if_neg h213, h246]; first | done | rfl
                refine g_iload X dL_changed_256 0 rfl rfl ?_
                refine g_if_eq X dL_changed_258 267 (by decide) rfl (fun h258 => absurd h258 (by decide)) (fun h258 => ?_)
                refine g_iinc (v := nI ((cnI P k) + 1)) X [(10, _), (13, _), (12, _), (11, _), (9, _), (8, _), (7, _), (6, _), (5, _), (0, _), (1, _), (2, _), (3, _), (4, _)] dL_changed_261 3 rfl (nI_add (cnI P k) 1) (by decide) rfl rfl ?_
                refine g_goto X dL_changed_264 335 (by decide) ?_
                refine g_iinc (v := nI (k + 1)) X [(11, _), (10, _), (13, _), (12, _), (9, _), (8, _), (7, _), (6, _), (5, _), (0, _), (1, _), (2, _), (3, _), (4, _)] dL_changed_335 3 rfl (nI_add k 1) (by decide) rfl rfl ?_
                refine g_goto X dL_changed_338 159 (by decide) ?_
                refine g_lve [(11, .int (nI (k + 1))), (10, .int (nI (cnI P (k + 1)))), (13, .int (1)), (12, .int (nI t)), (9, .int (nI (cnI P n))), (8, .ref (q2)), (7, .ref (q1)), (6, .int (f 81)), (5, .int (nI n)), (0, .ref (a 19)), (1, .int (nI p9)), (2, .int (nI q9)), (3, .int (0)), (4, .int (0))] (by rw [cnI_t hPt]) ?_
                refine g_lv [0, 1, 4, 5, 6, 7, 8, 9, 10, 11, 12, 13] [(11, _), (10, _), (9, _), (8, _), (7, _), (6, _), (5, _), (0, _), (1, _), (2, _), (3, _), (4, _)] rfl ?_
                exact ih (n - (k + 1)) (by omega) (k + 1) (by omega) rfl
            · refine g_aload X dL_changed_216 4 rfl rfl ?_
              refine g_iload X dL_changed_218 1 rfl rfl ?_
              refine g_ldA0 (k := k) X dL_changed_220 rfl (by omega) rfl ?_
              refine g_topi (hky) ?_
              refine g_bipush (v := (20 : Int32)) X dL_changed_221 (by decide) rfl ?_
              refine g_irem X dL_changed_223 (by decide) rfl ?_
              refine g_topi (y := nI ((1000 * g + 100 * d + 20 * e9 + pp) % 20)) (nI_rem (a := (1000 * g + 100 * d + 20 * e9 + pp)) (b := 20) (by omega) (by omega)) ?_
              refine g_topi ((show nI ((1000 * g + 100 * d + 20 * e9 + pp) % 20) = nI pp from by rw [show (1000 * g + 100 * d + 20 * e9 + pp) % 20 = pp from by omega])) ?_
              refine g_iload_n X dL_changed_224 rfl 9 rfl rfl ?_
              refine g_icmp_ne X dL_changed_225 253 (by decide) rfl (fun h225 => ?_) (fun h225 => ?_)
              · have i225 := nj_ne (a := pp) (b := p9) (by omega) (by omega) h225
                refine g_iconst (v := (0 : Int32)) X dL_changed_253 (by decide) rfl ?_
                refine g_istore X [(13, _), (12, _), (11, _), (10, _), (9, _), (8, _), (7, _), (6, _), (5, _), (0, _), (1, _), (2, _), (3, _), (4, _)] dL_changed_254 (by decide) rfl rfl ?_
                have hPt : P k = false := by rw [hPv, if_neg h203, if_pos h213, en3, epp, decide_eq_false (fun z => i225 (nj_eq (by omega) (by omega) z))]; first | done | rfl
                refine g_iload X dL_changed_256 0 rfl rfl ?_
                refine g_if_eq X dL_changed_258 267 (by decide) rfl (fun h258 => ?_) (fun h258 => absurd h258 (by decide))
                refine g_iload X dL_changed_267 2 rfl rfl ?_
                refine g_iload X dL_changed_269 3 rfl rfl ?_
                refine g_isub X dL_changed_271 rfl ?_
                refine g_topi (y := nI (k - (cnI P k))) (pk_sub (a := k) (b := (cnI P k)) (by omega)) ?_
                refine g_istore X [(14, _), (13, _), (12, _), (11, _), (10, _), (9, _), (8, _), (7, _), (6, _), (5, _), (0, _), (1, _), (2, _), (3, _), (4, _)] dL_changed_272 (by decide) rfl rfl ?_
                have hjl := cnI_kp (P := P) i163 hPt
                refine g_iload X dL_changed_274 0 rfl rfl ?_
                refine g_aload_n X dL_changed_276 rfl 10 rfl rfl ?_
                refine g_iconst (v := (2 : Int32)) X dL_changed_277 (by decide) rfl ?_
                refine g_callVRX (w0 := [(q2, .inl (D.2.1, 8, .inl F2)), (q1, .inl (D.2.1, 8, .inl F1))]) (n := 1) (As := [_]) (rest := [_]) X (c_X6_count l D a fA naA wA td vl L pt fl kd kpA (fqa pqA) (fqa ps) (tlW D pqA ps) mk (n - (cnI P n)) b hWA hNRA _) gL_changed_X6_count rfl (by decide +kernel) ⟨Nat.le_of_ble_eq_true rfl, Nat.le_of_ble_eq_true rfl⟩ 20 rfl rfl rfl rfl rfl (Nat.le_of_ble_eq_true rfl) dL_changed_278 ⟨Nat.le_of_ble_eq_true rfl, Nat.le_of_ble_eq_true rfl⟩ rfl (fun v hv => ?_)
                obtain rfl := hv
                refine g_st (st' := [_, _]) rfl ?_
                refine g_topi (oC2.trans hn8A) ?_
                refine g_icmp_ge X dL_changed_281 333 (by decide) rfl (fun h281 => absurd (nj_le (a := (n - (cnI P n))) (b := (k - (cnI P k))) (by omega) (by omega) h281) (by omega)) (fun h281 => ?_)
                have i281 := nj_nle (a := (n - (cnI P n))) (b := (k - (cnI P k))) (by omega) (by omega) h281
                refine g_sipush (v := (1000 : Int32)) X dL_changed_284 (by decide) rfl ?_
                refine g_aload_n X dL_changed_287 rfl 10 rfl rfl ?_
                refine g_iload X dL_changed_288 0 rfl rfl ?_
                refine g_iconst (v := (0 : Int32)) X dL_changed_290 (by decide) rfl ?_
                refine g_callVRX (w0 := [(q2, .inl (D.2.1, 8, .inl F2)), (q1, .inl (D.2.1, 8, .inl F1))]) (n := 2) (As := [_, _]) (rest := [_]) X (c_X6_note l D a fA naA wA td vl L pt fl kd kpA (fqa pqA) (fqa ps) (tlW D pqA ps) mk (n - (cnI P n)) b hWA hNRA _ _) gL_changed_X6_note rfl (by decide +kernel) ⟨Nat.le_of_ble_eq_true rfl, Nat.le_of_ble_eq_true rfl⟩ 20 rfl rfl rfl rfl rfl (Nat.le_of_ble_eq_true rfl) dL_changed_291 ⟨Nat.le_of_ble_eq_true rfl, Nat.le_of_ble_eq_true rfl⟩ rfl (fun v hv => ?_)
                obtain rfl := hv
                refine g_st (st' := [_, _]) rfl ?_
                refine g_topi (oNt (k := (k - (cnI P k))) 0 eN2A (by omega) hm8A rfl (by decide)) ?_
                refine g_topi ((hrow k i163 hPt 0 (by omega))) ?_
                refine g_imul X dL_changed_294 rfl ?_
                refine g_bipush (v := (100 : Int32)) X dL_changed_295 (by decide) rfl ?_
                refine g_aload_n X dL_changed_297 rfl 10 rfl rfl ?_
                refine g_iload X dL_changed_298 0 rfl rfl ?_
                refine g_iconst (v := (1 : Int32)) X dL_changed_300 (by decide) rfl ?_
                refine g_callVRX (w0 := [(q2, .inl (D.2.1, 8, .inl F2)), (q1, .inl (D.2.1, 8, .inl F1))]) (n := 2) (As := [_, _]) (rest := [_, _]) X (c_X6_note l D a fA naA wA td vl L pt fl kd kpA (fqa pqA) (fqa ps) (tlW D pqA ps) mk (n - (cnI P n)) b hWA hNRA _ _) gL_changed_X6_note rfl (by decide +kernel) ⟨Nat.le_of_ble_eq_true rfl, Nat.le_of_ble_eq_true rfl⟩ 20 rfl rfl rfl rfl rfl (Nat.le_of_ble_eq_true rfl) dL_changed_301 ⟨Nat.le_of_ble_eq_true rfl, Nat.le_of_ble_eq_true rfl⟩ rfl (fun v hv => ?_)
                obtain rfl := hv
                refine g_st (st' := [_, _, _]) rfl ?_
                refine g_topi (oNt (k := (k - (cnI P k))) 1 eN2A (by omega) hm8A rfl (by decide)) ?_
                refine g_topi ((hrow k i163 hPt 1 (by omega))) ?_
                refine g_imul X dL_changed_304 rfl ?_
                refine g_iadd X dL_changed_305 rfl ?_
                refine g_bipush (v := (20 : Int32)) X dL_changed_306 (by decide) rfl ?_
                refine g_aload_n X dL_changed_308 rfl 10 rfl rfl ?_
                refine g_iload X dL_changed_309 0 rfl rfl ?_
                refine g_iconst (v := (2 : Int32)) X dL_changed_311 (by decide) rfl ?_
                refine g_callVRX (w0 := [(q2, .inl (D.2.1, 8, .inl F2)), (q1, .inl (D.2.1, 8, .inl F1))]) (n := 2) (As := [_, _]) (rest := [_, _]) X (c_X6_note l D a fA naA wA td vl L pt fl kd kpA (fqa pqA) (fqa ps) (tlW D pqA ps) mk (n - (cnI P n)) b hWA hNRA _ _) gL_changed_X6_note rfl (by decide +kernel) ⟨Nat.le_of_ble_eq_true rfl, Nat.le_of_ble_eq_true rfl⟩ 20 rfl rfl rfl rfl rfl (Nat.le_of_ble_eq_true rfl) dL_changed_312 ⟨Nat.le_of_ble_eq_true rfl, Nat.le_of_ble_eq_true rfl⟩ rfl (fun v hv => ?_)
                obtain rfl := hv
                refine g_st (st' := [_, _, _]) rfl ?_
                refine g_topi (oNt (k := (k - (cnI P k))) 2 eN2A (by omega) hm8A rfl (by decide)) ?_
                refine g_topi ((hrow k i163 hPt 2 (by omega))) ?_
                refine g_imul X dL_changed_315 rfl ?_
                refine g_iadd X dL_changed_316 rfl ?_
                refine g_aload_n X dL_changed_317 rfl 10 rfl rfl ?_
                refine g_iload X dL_changed_318 0 rfl rfl ?_
                refine g_iconst (v := (3 : Int32)) X dL_changed_320 (by decide) rfl ?_
                refine g_callVRX (w0 := [(q2, .inl (D.2.1, 8, .inl F2)), (q1, .inl (D.2.1, 8, .inl F1))]) (n := 2) (As := [_, _]) (rest := [_]) X (c_X6_note l D a fA naA wA td vl L pt fl kd kpA (fqa pqA) (fqa ps) (tlW D pqA ps) mk (n - (cnI P n)) b hWA hNRA _ _) gL_changed_X6_note rfl (by decide +kernel) ⟨Nat.le_of_ble_eq_true rfl, Nat.le_of_ble_eq_true rfl⟩ 20 rfl rfl rfl rfl rfl (Nat.le_of_ble_eq_true rfl) dL_changed_321 ⟨Nat.le_of_ble_eq_true rfl, Nat.le_of_ble_eq_true rfl⟩ rfl (fun v hv => ?_)
                obtain rfl := hv
                refine g_st (st' := [_, _]) rfl ?_
                refine g_topi (oNt (k := (k - (cnI P k))) 3 eN2A (by omega) hm8A rfl (by decide)) ?_
                refine g_topi ((hrow k i163 hPt 3 (by omega))) ?_
                refine g_iadd X dL_changed_324 rfl ?_
                refine g_aload X dL_changed_325 6 rfl rfl ?_
                refine g_iload X dL_changed_327 3 rfl rfl ?_
                refine g_ldA0 (k := k) X dL_changed_329 rfl (by omega) rfl ?_
                refine g_topi ((hF2 k (by omega))) ?_
                refine g_icmp_eq X dL_changed_330 335 (by decide) rfl (fun h330 => ?_) (fun h330 => absurd rfl h330)
                refine g_iinc (v := nI (k + 1)) X [(11, _), (14, _), (13, _), (12, _), (10, _), (9, _), (8, _), (7, _), (6, _), (5, _), (0, _), (1, _), (2, _), (3, _), (4, _)] dL_changed_335 3 rfl (nI_add k 1) (by decide) rfl rfl ?_
                refine g_goto X dL_changed_338 159 (by decide) ?_
                refine g_lve [(11, .int (nI (k + 1))), (14, .int (nI (k - (cnI P k)))), (13, .int (0)), (12, .int (nI t)), (10, .int (nI (cnI P (k + 1)))), (9, .int (nI (cnI P n))), (8, .ref (q2)), (7, .ref (q1)), (6, .int (f 81)), (5, .int (nI n)), (0, .ref (a 19)), (1, .int (nI p9)), (2, .int (nI q9)), (3, .int (0)), (4, .int (0))] (by rw [cnI_f hPt]) ?_
                refine g_lv [0, 4, 5, 6, 7, 8, 9, 10, 11, 12, 13, 14] [(11, _), (10, _), (9, _), (8, _), (7, _), (6, _), (5, _), (0, _), (1, _), (2, _), (3, _), (4, _)] rfl ?_
                exact ih (n - (k + 1)) (by omega) (k + 1) (by omega) rfl
              · have i225 := nj_eq (a := pp) (b := p9) (by omega) (by omega) h225
                refine g_goto X dL_changed_228 249 (by decide) ?_
                refine g_iconst (v := (1 : Int32)) X dL_changed_249 (by decide) rfl ?_
                refine g_goto X dL_changed_250 254 (by decide) ?_
                refine g_istore X [(13, _), (12, _), (11, _), (10, _), (9, _), (8, _), (7, _), (6, _), (5, _), (0, _), (1, _), (2, _), (3, _), (4, _)] dL_changed_254 (by decide) rfl rfl ?_
                have hPt : P k = true := by rw [hPv, if_neg h203, if_pos h213, en3, epp, decide_eq_true (p := nI pp = nI p9) (by rw [i225])]; first | done | rfl
                refine g_iload X dL_changed_256 0 rfl rfl ?_
                refine g_if_eq X dL_changed_258 267 (by decide) rfl (fun h258 => absurd h258 (by decide)) (fun h258 => ?_)
                refine g_iinc (v := nI ((cnI P k) + 1)) X [(10, _), (13, _), (12, _), (11, _), (9, _), (8, _), (7, _), (6, _), (5, _), (0, _), (1, _), (2, _), (3, _), (4, _)] dL_changed_261 3 rfl (nI_add (cnI P k) 1) (by decide) rfl rfl ?_
                refine g_goto X dL_changed_264 335 (by decide) ?_
                refine g_iinc (v := nI (k + 1)) X [(11, _), (10, _), (13, _), (12, _), (9, _), (8, _), (7, _), (6, _), (5, _), (0, _), (1, _), (2, _), (3, _), (4, _)] dL_changed_335 3 rfl (nI_add k 1) (by decide) rfl rfl ?_
                refine g_goto X dL_changed_338 159 (by decide) ?_
                refine g_lve [(11, .int (nI (k + 1))), (10, .int (nI (cnI P (k + 1)))), (13, .int (1)), (12, .int (nI t)), (9, .int (nI (cnI P n))), (8, .ref (q2)), (7, .ref (q1)), (6, .int (f 81)), (5, .int (nI n)), (0, .ref (a 19)), (1, .int (nI p9)), (2, .int (nI q9)), (3, .int (0)), (4, .int (0))] (by rw [cnI_t hPt]) ?_
                refine g_lv [0, 1, 4, 5, 6, 7, 8, 9, 10, 11, 12, 13] [(11, _), (10, _), (9, _), (8, _), (7, _), (6, _), (5, _), (0, _), (1, _), (2, _), (3, _), (4, _)] rfl ?_
                exact ih (n - (k + 1)) (by omega) (k + 1) (by omega) rfl
      exact L159 n 0 (by omega) rfl
    · have i34 := nj_nle (a := n) (b := i) (by omega) (by omega) h34
      refine g_aload_n X dL_changed_37 rfl 5 rfl rfl ?_
      refine g_aload_n X dL_changed_38 rfl 5 rfl rfl ?_
      refine g_iload X dL_changed_39 0 rfl rfl ?_
      refine g_iconst (v := (0 : Int32)) X dL_changed_41 (by decide) rfl ?_
      refine g_callVRX (w0 := [(q2, .inl (D.2.1, 8, .inl F2)), (q1, .inl (D.2.1, 8, .inl F1))]) (n := 2) (As := [_, _]) (rest := [_]) X (c_X6_note l D a f na w td vl L pt fl kd kp (fqa pq) (fqa ps) (tlW D pq ps) mk n b hW hNR _ _) gL_changed_X6_note rfl (by decide +kernel) ⟨Nat.le_of_ble_eq_true rfl, Nat.le_of_ble_eq_true rfl⟩ 20 rfl rfl rfl rfl rfl (Nat.le_of_ble_eq_true rfl) dL_changed_42 ⟨Nat.le_of_ble_eq_true rfl, Nat.le_of_ble_eq_true rfl⟩ rfl (fun v hv => ?_)
      obtain rfl := hv
      refine g_st (st' := [_, _]) rfl ?_
      refine g_topi (oNt (k := i) 0 eN2 (by omega) hm8 rfl (by decide)) ?_
      obtain ⟨g, d, e9, t, hg, hd, he, ht, en0, en1, en2, el, en3, eh, eg, er⟩ := hNt.ok eN2 i34
      rw [eN1] at ht
      refine g_topi (en0) ?_
      refine g_aload_n X dL_changed_45 rfl 5 rfl rfl ?_
      refine g_iload X dL_changed_46 0 rfl rfl ?_
      refine g_iconst (v := (1 : Int32)) X dL_changed_48 (by decide) rfl ?_
      refine g_callVRX (w0 := [(q2, .inl (D.2.1, 8, .inl F2)), (q1, .inl (D.2.1, 8, .inl F1))]) (n := 2) (As := [_, _]) (rest := [_, _]) X (c_X6_note l D a f na w td vl L pt fl kd kp (fqa pq) (fqa ps) (tlW D pq ps) mk n b hW hNR _ _) gL_changed_X6_note rfl (by decide +kernel) ⟨Nat.le_of_ble_eq_true rfl, Nat.le_of_ble_eq_true rfl⟩ 20 rfl rfl rfl rfl rfl (Nat.le_of_ble_eq_true rfl) dL_changed_49 ⟨Nat.le_of_ble_eq_true rfl, Nat.le_of_ble_eq_true rfl⟩ rfl (fun v hv => ?_)
      obtain rfl := hv
      refine g_st (st' := [_, _, _]) rfl ?_
      refine g_topi (oNt (k := i) 1 eN2 (by omega) hm8 rfl (by decide)) ?_
      refine g_topi (en1) ?_
      refine g_callVRX (w0 := [(q2, .inl (D.2.1, 8, .inl F2)), (q1, .inl (D.2.1, 8, .inl F1))]) (n := 2) (As := [_, _]) (rest := []) X (c_X6_leads l D a f na w td vl L pt fl kd kp (fqa pq) (fqa ps) (tlW D pq ps) mk n b hW hNR _ _) gL_changed_X6_leads rfl (by decide +kernel) ⟨Nat.le_of_ble_eq_true rfl, Nat.le_of_ble_eq_true rfl⟩ 20 rfl rfl rfl rfl rfl (Nat.le_of_ble_eq_true rfl) dL_changed_52 ⟨Nat.le_of_ble_eq_true rfl, Nat.le_of_ble_eq_true rfl⟩ rfl (fun v hv => ?_)
      obtain rfl := hv
      refine g_st (st' := [_]) rfl ?_
      refine g_topi (oLd (g := g) (d := d) (by omega) (by omega)) ?_
      refine g_topi (el) ?_
      refine g_istore X [(10, _), (9, _), (8, _), (7, _), (6, _), (5, _), (0, _), (1, _), (2, _), (3, _), (4, _)] dL_changed_55 (by decide) rfl rfl ?_
      refine g_aload X dL_changed_57 3 rfl rfl ?_
      refine g_iload X dL_changed_59 1 rfl rfl ?_
      refine g_iload X dL_changed_61 0 rfl rfl ?_
      refine g_if_lt X dL_changed_63 79 (by decide) rfl (fun h63 => absurd h63 (nI_pos (by omega))) (fun h63 => ?_)
      have i63 := nj_nlt (a := t) (b := 0) (by omega) (by omega) h63
      refine g_aload_n X dL_changed_66 rfl 6 rfl rfl ?_
      refine g_iload X dL_changed_67 0 rfl rfl ?_
      refine g_callSRX (w0 := [(q2, .inl (D.2.1, 8, .inl F2)), (q1, .inl (D.2.1, 8, .inl F1))]) (n := 2) (As := [_, _]) (rest := [_, _]) X (c_L_good l D a f na w td vl L pt fl kd kp (fqa pq) (fqa ps) (tlW D pq ps) mk n b hW hNR t (by omega)) gL_changed_L_good rfl (by decide +kernel) ⟨Nat.le_of_ble_eq_true rfl, Nat.le_of_ble_eq_true rfl⟩ rfl rfl rfl (Nat.le_of_ble_eq_true rfl) dL_changed_69 ⟨Nat.le_of_ble_eq_true rfl, Nat.le_of_ble_eq_true rfl⟩ rfl (fun v hv => ?_)
      obtain rfl := hv
      refine g_st (st' := [_, _, _]) rfl ?_
      refine g_topi ((show b2i (gd f t) = 1 from by rw [eg]; rfl)) ?_
      refine g_if_eq X dL_changed_72 79 (by decide) rfl (fun h72 => absurd h72 (by decide)) (fun h72 => ?_)
      refine g_iconst (v := (1 : Int32)) X dL_changed_75 (by decide) rfl ?_
      refine g_goto X dL_changed_76 80 (by decide) ?_
      refine g_stA1 (k := i) X rfl dL_changed_80 rfl (by omega) rfl ?_
      refine g_aload X dL_changed_81 2 rfl rfl ?_
      refine g_iload X dL_changed_83 1 rfl rfl ?_
      refine g_sipush (v := (1000 : Int32)) X dL_changed_85 (by decide) rfl ?_
      refine g_aload_n X dL_changed_88 rfl 6 rfl rfl ?_
      refine g_iload X dL_changed_89 1 rfl rfl ?_
      refine g_iconst (v := (0 : Int32)) X dL_changed_91 (by decide) rfl ?_
      refine g_callVRX (w0 := [(q2, .inl (D.2.1, 8, .inl F2)), (q1, .inl (D.2.1, 8, .inl (up F1 i ((1 : Int32)))))]) (n := 2) (As := [_, _]) (rest := [_, _, _]) X (c_X6_note l D a f na w td vl L pt fl kd kp (fqa pq) (fqa ps) (tlW D pq ps) mk n b hW hNR _ _) gL_changed_X6_note rfl (by decide +kernel) ⟨Nat.le_of_ble_eq_true rfl, Nat.le_of_ble_eq_true rfl⟩ 20 rfl rfl rfl rfl rfl (Nat.le_of_ble_eq_true rfl) dL_changed_92 ⟨Nat.le_of_ble_eq_true rfl, Nat.le_of_ble_eq_true rfl⟩ rfl (fun v hv => ?_)
      obtain rfl := hv
      refine g_st (st' := [_, _, _, _]) rfl ?_
      refine g_topi (oNt (k := i) 0 eN2 (by omega) hm8 rfl (by decide)) ?_
      refine g_imul X dL_changed_95 rfl ?_
      refine g_bipush (v := (100 : Int32)) X dL_changed_96 (by decide) rfl ?_
      refine g_aload_n X dL_changed_98 rfl 6 rfl rfl ?_
      refine g_iload X dL_changed_99 1 rfl rfl ?_
      refine g_iconst (v := (1 : Int32)) X dL_changed_101 (by decide) rfl ?_
      refine g_callVRX (w0 := [(q2, .inl (D.2.1, 8, .inl F2)), (q1, .inl (D.2.1, 8, .inl (up F1 i ((1 : Int32)))))]) (n := 2) (As := [_, _]) (rest := [_, _, _, _]) X (c_X6_note l D a f na w td vl L pt fl kd kp (fqa pq) (fqa ps) (tlW D pq ps) mk n b hW hNR _ _) gL_changed_X6_note rfl (by decide +kernel) ⟨Nat.le_of_ble_eq_true rfl, Nat.le_of_ble_eq_true rfl⟩ 20 rfl rfl rfl rfl rfl (Nat.le_of_ble_eq_true rfl) dL_changed_102 ⟨Nat.le_of_ble_eq_true rfl, Nat.le_of_ble_eq_true rfl⟩ rfl (fun v hv => ?_)
      obtain rfl := hv
      refine g_st (st' := [_, _, _, _, _]) rfl ?_
      refine g_topi (oNt (k := i) 1 eN2 (by omega) hm8 rfl (by decide)) ?_
      refine g_imul X dL_changed_105 rfl ?_
      refine g_iadd X dL_changed_106 rfl ?_
      refine g_bipush (v := (20 : Int32)) X dL_changed_107 (by decide) rfl ?_
      refine g_aload_n X dL_changed_109 rfl 6 rfl rfl ?_
      refine g_iload X dL_changed_110 1 rfl rfl ?_
      refine g_iconst (v := (2 : Int32)) X dL_changed_112 (by decide) rfl ?_
      refine g_callVRX (w0 := [(q2, .inl (D.2.1, 8, .inl F2)), (q1, .inl (D.2.1, 8, .inl (up F1 i ((1 : Int32)))))]) (n := 2) (As := [_, _]) (rest := [_, _, _, _]) X (c_X6_note l D a f na w td vl L pt fl kd kp (fqa pq) (fqa ps) (tlW D pq ps) mk n b hW hNR _ _) gL_changed_X6_note rfl (by decide +kernel) ⟨Nat.le_of_ble_eq_true rfl, Nat.le_of_ble_eq_true rfl⟩ 20 rfl rfl rfl rfl rfl (Nat.le_of_ble_eq_true rfl) dL_changed_113 ⟨Nat.le_of_ble_eq_true rfl, Nat.le_of_ble_eq_true rfl⟩ rfl (fun v hv => ?_)
      obtain rfl := hv
      refine g_st (st' := [_, _, _, _, _]) rfl ?_
      refine g_topi (oNt (k := i) 2 eN2 (by omega) hm8 rfl (by decide)) ?_
      refine g_imul X dL_changed_116 rfl ?_
      refine g_iadd X dL_changed_117 rfl ?_
      refine g_aload_n X dL_changed_118 rfl 6 rfl rfl ?_
      refine g_iload X dL_changed_119 1 rfl rfl ?_
      refine g_iconst (v := (3 : Int32)) X dL_changed_121 (by decide) rfl ?_
      refine g_callVRX (w0 := [(q2, .inl (D.2.1, 8, .inl F2)), (q1, .inl (D.2.1, 8, .inl (up F1 i ((1 : Int32)))))]) (n := 2) (As := [_, _]) (rest := [_, _, _]) X (c_X6_note l D a f na w td vl L pt fl kd kp (fqa pq) (fqa ps) (tlW D pq ps) mk n b hW hNR _ _) gL_changed_X6_note rfl (by decide +kernel) ⟨Nat.le_of_ble_eq_true rfl, Nat.le_of_ble_eq_true rfl⟩ 20 rfl rfl rfl rfl rfl (Nat.le_of_ble_eq_true rfl) dL_changed_122 ⟨Nat.le_of_ble_eq_true rfl, Nat.le_of_ble_eq_true rfl⟩ rfl (fun v hv => ?_)
      obtain rfl := hv
      refine g_st (st' := [_, _, _, _]) rfl ?_
      refine g_topi (oNt (k := i) 3 eN2 (by omega) hm8 rfl (by decide)) ?_
      refine g_iadd X dL_changed_125 rfl ?_
      refine g_stA0 (k := i) X rfl dL_changed_126 rfl (by omega) rfl ?_
      refine g_iinc (v := nI (i + 1)) X [(9, _), (10, _), (8, _), (7, _), (6, _), (5, _), (0, _), (1, _), (2, _), (3, _), (4, _)] dL_changed_127 1 rfl (nI_add i 1) (by decide) rfl rfl ?_
      refine g_goto X dL_changed_130 30 (by decide) ?_
      refine g_lv [0, 2, 3, 4, 5, 6, 7, 8, 9, 10] [(9, _), (8, _), (7, _), (6, _), (5, _), (0, _), (1, _), (2, _), (3, _), (4, _)] rfl ?_
      refine ih (n - (i + 1)) (by omega) (i + 1) _ _ (by omega) rfl (fun j hj => ?_) (fun j hj => ?_)
      · by_cases hji : j = i
        · rw [hji, up_s]
        · rw [up_n _ _ hji]; exact hF1 j (by omega)
      · by_cases hji : j = i
        · rw [hji, up_s]
        · rw [up_n _ _ hji]; exact hF2 j (by omega)
  exact L30 n 0 _ _ (by omega) rfl (fun j hj => absurd hj (Nat.not_lt_zero j)) (fun j hj => absurd hj (Nat.not_lt_zero j))
