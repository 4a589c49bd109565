set_option maxHeartbeats 4000000 in
set_option maxRecDepth 100000 in
theorem c_X0_moveToEnd (l : Launch) (D : DT) (a : Nat → Nat) (f : Nat → Int32) (na : Nat → Nat → Int32) (w : Nat → Int32) (n : Nat) (hn8 : f 90 = nI n) (h8 : n ≤ 8) (hNR : NR f na n) (q : Nat) (hq : q < n) : MW l yX0_moveToEnd wsX0_moveToEnd 2 45 0 0 D [.ref (a 13), .int (nI q)] (wHW D a f na w) (fun v w2 => v = none ∧ ∃ nb : Nat → Nat → Int32, w2 = (wHW D a (pnF (tkF f n q) (n - 1) (noteM f q 0) (noteM f q 1) (noteM f q 2) (noteM f q 3)) nb w) ∧ NR (pnF (tkF f n q) (n - 1) (noteM f q 0) (noteM f q 1) (noteM f q 2) (noteM f q 3)) nb n) := by
  refine MW.of (cc := cX0_moveToEnd) (maxL := 6) (ret := none) (lv := [(0, .ref (a 13)), (1, .int (nI q))]) (by decide +kernel) rfl (Nat.le_of_ble_eq_true rfl) rfl ?_
  intro p e s m below meth c A hAe hAg X hr hmn
  have hinX00 : ∀ w ∈ wsX00, w ∈ wsX0_moveToEnd := fun w h => List.mem_cons_of_mem _ (List.mem_append_right _ h)
  have hl9 := List.mem_of_getElem? (l := wsX0_moveToEnd) (i := 1) rfl
  have hl15 := List.mem_of_getElem? (l := wsX0_moveToEnd) (i := 2) rfl
  have hl18 := List.mem_of_getElem? (l := wsX0_moveToEnd) (i := 3) rfl
  have hl21 := List.mem_of_getElem? (l := wsX0_moveToEnd) (i := 4) rfl
  refine g_aload_n X dX0_moveToEnd_0 rfl 0 rfl rfl ?_
  refine gH_get_Board_guest X dX0_moveToEnd_1 hinX00 hl9 rfl ?_
  refine g_iload_n X dX0_moveToEnd_4 rfl 1 rfl rfl ?_
  refine gH_ld_Board_guest X dX0_moveToEnd_5 (by first | rfl | assumption) (by omega) rfl ?_
  refine g_topi (hNR _ (by omega) 0 (by decide)) ?_
  refine g_istore_n X [(2, _), (0, _), (1, _)] dX0_moveToEnd_6 rfl (by decide) rfl rfl ?_
  refine g_aload_n X dX0_moveToEnd_7 rfl 1 rfl rfl ?_
  refine gH_get_Board_door X dX0_moveToEnd_8 hinX00 hl15 rfl ?_
  refine g_iload_n X dX0_moveToEnd_11 rfl 2 rfl rfl ?_
  refine gH_ld_Board_door X dX0_moveToEnd_12 (by first | rfl | assumption) (by omega) rfl ?_
  refine g_topi (hNR _ (by omega) 1 (by decide)) ?_
  refine g_istore_n X [(3, _), (2, _), (0, _), (1, _)] dX0_moveToEnd_13 rfl (by decide) rfl rfl ?_
  refine g_aload_n X dX0_moveToEnd_14 rfl 2 rfl rfl ?_
  refine gH_get_Board_need X dX0_moveToEnd_15 hinX00 hl18 rfl ?_
  refine g_iload_n X dX0_moveToEnd_18 rfl 3 rfl rfl ?_
  refine gH_ld_Board_need X dX0_moveToEnd_19 (by first | rfl | assumption) (by omega) rfl ?_
  refine g_topi (hNR _ (by omega) 2 (by decide)) ?_
  refine g_istore X [(4, _), (3, _), (2, _), (0, _), (1, _)] dX0_moveToEnd_20 (by decide) rfl rfl ?_
  refine g_aload_n X dX0_moveToEnd_22 rfl 3 rfl rfl ?_
  refine gH_get_Board_page X dX0_moveToEnd_23 hinX00 hl21 rfl ?_
  refine g_iload_n X dX0_moveToEnd_26 rfl 4 rfl rfl ?_
  refine gH_ld_Board_page X dX0_moveToEnd_27 (by first | rfl | assumption) (by omega) rfl ?_
  refine g_topi (hNR _ (by omega) 3 (by decide)) ?_
  refine g_istore X [(5, _), (4, _), (3, _), (2, _), (0, _), (1, _)] dX0_moveToEnd_28 (by decide) rfl rfl ?_
  refine g_aload_n X dX0_moveToEnd_30 rfl 4 rfl rfl ?_
  refine g_iconst (v := (1 : Int32)) X dX0_moveToEnd_31 (by decide) rfl ?_
  refine g_iload_n X dX0_moveToEnd_32 rfl 5 rfl rfl ?_
  refine g_ishl X dX0_moveToEnd_33 rfl ?_
  refine g_topi ((i2_shl (by omega)).trans (congrArg nI (mk_one hq).symm)) ?_
  refine g_callVWsq (n := 1) (As := [_]) (rest := []) X hAg rfl (c_X0_remove l D _ _ _ _ n hn8 h8 (fun j => decide (j = q))) gX0_moveToEnd_X0_remove rfl (by decide +kernel) ⟨Nat.le_of_ble_eq_true rfl, Nat.le_of_ble_eq_true rfl⟩ 11 rfl rfl  rfl rfl (Nat.le_of_ble_eq_true rfl) dX0_moveToEnd_34 ⟨Nat.le_of_ble_eq_true rfl, Nat.le_of_ble_eq_true rfl⟩ rfl (fun v w hv => ?_)
  obtain ⟨rfl, nb, rfl, hRM⟩ := hv
  refine ⟨rfl, ?_⟩
  refine g_st (st' := [_]) rfl ?_
  refine g_ws (wHW_c (mv_w hq (by omega))) ?_
  refine g_pop X dX0_moveToEnd_37 rfl rfl ?_
  refine g_aload_n X dX0_moveToEnd_38 rfl 4 rfl rfl ?_
  refine g_iload_n X dX0_moveToEnd_39 rfl 3 rfl rfl ?_
  refine g_iload_n X dX0_moveToEnd_40 rfl 2 rfl rfl ?_
  refine g_iload X dX0_moveToEnd_41 1 rfl rfl ?_
  refine g_iload X dX0_moveToEnd_43 0 rfl rfl ?_
  refine g_callVWsq (n := 4) (As := [_, _, _, _]) (rest := []) X hAg rfl (c_X0_add l D _ _ _ _ (n - 1) tkF_90 (by omega) (mv_NR hq hNR hRM) (by omega) _ _ _ _) gX0_moveToEnd_X0_add rfl (by decide +kernel) ⟨Nat.le_of_ble_eq_true rfl, Nat.le_of_ble_eq_true rfl⟩ 11 rfl rfl  rfl rfl (Nat.le_of_ble_eq_true rfl) dX0_moveToEnd_45 ⟨Nat.le_of_ble_eq_true rfl, Nat.le_of_ble_eq_true rfl⟩ rfl (fun v w hv => ?_)
  obtain ⟨rfl, nb2, rfl, hN2⟩ := hv
  refine ⟨rfl, ?_⟩
  refine g_st (st' := []) rfl ?_
  refine g_vretW X hr dX0_moveToEnd_48 hAe ?_
  exact ⟨rfl, nb2, rfl, (show n - 1 + 1 = n from by omega) ▸ hN2⟩

set_option maxHeartbeats 4000000 in
set_option maxRecDepth 100000 in
theorem c_X2_notesLedBy (l : Launch) (D : DT) (a : Nat → Nat) (f : Nat → Int32) (na : Nat → Nat → Int32) (w : Nat → Int32) (mk n b : Nat) (hW : WF f mk n b) (hNR : NR f na n) (L : Nat) (hL : L < 2 ^ 64) : MR l yX2_notesLedBy wsX2_notesLedBy 2 43 D [.ref (a 0), .long (lN L)] (wHW D a f na w) (fun v => v = some (.int (nI (mskN (nlP f L) n)))) := by
  obtain ⟨hmk, h40, hn8, hb0, hb1, hb8, hnb, hst, hno, how, hdo, hs1, hs2, hs3, hZF⟩ := id hW
  have h8 : n ≤ 8 := by omega
  obtain ⟨eN1, eN2, eN3⟩ := hW.N
  refine MR.of (cc := cX2_notesLedBy) (maxL := 6) (ret := (some .int)) (lv := [(0, .ref (a 0)), (1, .long (lN L))]) (by decide +kernel) rfl (Nat.le_of_ble_eq_true rfl) rfl ?_
  intro p e s m below meth c A X hr hmn
  have hinX20 : ∀ w ∈ wsX20, w ∈ wsX2_notesLedBy := fun w h => List.mem_cons_of_mem _ (List.mem_append_left _ (List.mem_append_left _ (List.mem_append_right _ h)))
  have hinX00 : ∀ w ∈ wsX00, w ∈ wsX2_notesLedBy := fun w h => List.mem_cons_of_mem _ (List.mem_append_left _ (List.mem_append_right _ h))
  have hinX40 : ∀ w ∈ wsX40, w ∈ wsX2_notesLedBy := fun w h => List.mem_cons_of_mem _ (List.mem_append_right _ h)
  have hl42 := List.mem_of_getElem? (l := wsX2_notesLedBy) (i := 1) rfl
  have hl253 := List.mem_of_getElem? (l := wsX2_notesLedBy) (i := 2) rfl
  have hl256 := List.mem_of_getElem? (l := wsX2_notesLedBy) (i := 3) rfl
  have hl259 := List.mem_of_getElem? (l := wsX2_notesLedBy) (i := 4) rfl
  have hl35 := List.mem_of_getElem? (l := wsX2_notesLedBy) (i := 5) rfl
  refine g_iconst (v := (0 : Int32)) X dX2_notesLedBy_0 (by decide) rfl ?_
  refine g_istore_n X [(3, _), (0, _), (1, _)] dX2_notesLedBy_1 rfl (by decide) rfl rfl ?_
  refine g_iconst (v := (0 : Int32)) X dX2_notesLedBy_2 (by decide) rfl ?_
  refine g_istore X [(4, _), (3, _), (0, _), (1, _)] dX2_notesLedBy_3 (by decide) rfl rfl ?_
  have L5 : ∀ (q i M : Nat) (hi : i ≤ n) (hq : n - i = q) (hM : M = mskN (nlP f L) i), GG p l e (wRoom 2 43 0 0) s m ([.ref (a 0), .long (lN L)] : List Value).toArray below meth c D A 6 true 0 0 (MQ below (roQ (fun v => v = some (.int (nI (mskN (nlP f L) n))))) ([.ref (a 0), .long (lN L)] : List Value).toArray s 0 0 (fun _ => False)) (wHW D a f na w) 5 [(4, .int (nI i)), (3, .int (nI M)), (0, .ref (a 0)), (1, .long (lN L))] [] := by
    intro q
    induction q using Nat.strongRecOn with
    | _ q ih =>
    intro i M hi hq hM
    have hMl : M < 2 ^ 32 := by rw [hM]; exact msk32 (by omega)
    refine g_iload X dX2_notesLedBy_5 0 rfl rfl ?_
    refine g_aload_n X dX2_notesLedBy_7 rfl 2 rfl rfl ?_
    refine gH_get_House_board X dX2_notesLedBy_8 hinX20 hl42 rfl ?_
    refine gH_get_Board_size X dX2_notesLedBy_11 hinX00 hl253 rfl ?_
    refine g_topi (show _ = nI (n) from hn8) ?_
    refine g_icmp_ge X dX2_notesLedBy_14 77 (by decide) rfl (fun h14 => ?_) (fun h14 => ?_)
    · have i14 := nj_le (a := n) (b := i) (by omega) (by omega) h14
      have hii : i = n := by omega
      subst hii
      subst hM
      refine g_iload_n X dX2_notesLedBy_77 rfl 1 rfl rfl ?_
      refine g_retR X hr (by first | rfl | exact b2i_nar _) dX2_notesLedBy_78 ?_
      rfl
    · have i14 := nj_nle (a := n) (b := i) (by omega) (by omega) h14
      obtain ⟨⟨gi, hgi, egi⟩, ⟨di, hdi, edi⟩⟩ := hno i i14
      have hl : ledBy f i = ledM f gi di := nl_e (L := 0) egi edi hgi hdi
      refine g_aload_n X dX2_notesLedBy_17 rfl 2 rfl rfl ?_
      refine g_aload_n X dX2_notesLedBy_18 rfl 2 rfl rfl ?_
      refine gH_get_House_board X dX2_notesLedBy_19 hinX20 hl42 rfl ?_
      refine gH_get_Board_guest X dX2_notesLedBy_22 hinX00 hl256 rfl ?_
      refine g_iload X dX2_notesLedBy_25 0 rfl rfl ?_
      refine gH_ld_Board_guest X dX2_notesLedBy_27 (by first | rfl | assumption) (by omega) rfl ?_
      refine g_topi (hNR _ (by omega) 0 (by decide)) ?_
      refine g_topi egi ?_
      refine g_aload_n X dX2_notesLedBy_28 rfl 2 rfl rfl ?_
      refine gH_get_House_board X dX2_notesLedBy_29 hinX20 hl42 rfl ?_
      refine gH_get_Board_door X dX2_notesLedBy_32 hinX00 hl259 rfl ?_
      refine g_iload X dX2_notesLedBy_35 0 rfl rfl ?_
      refine gH_ld_Board_door X dX2_notesLedBy_37 (by first | rfl | assumption) (by omega) rfl ?_
      refine g_topi (hNR _ (by omega) 1 (by decide)) ?_
      refine g_topi edi ?_
      refine g_callVRsq (n := 2) (As := [_, _]) (rest := []) X (c_X2_ledBy l D _ _ _ _ gi di hgi hdi) gX2_notesLedBy_X2_ledBy rfl (by decide +kernel) ⟨Nat.le_of_ble_eq_true rfl, Nat.le_of_ble_eq_true rfl⟩ 0 rfl rfl  rfl rfl (Nat.le_of_ble_eq_true rfl) dX2_notesLedBy_38 ⟨Nat.le_of_ble_eq_true rfl, Nat.le_of_ble_eq_true rfl⟩ rfl (fun v hv => ?_)
      obtain rfl := hv
      refine g_st (st' := [_]) rfl ?_
      refine g_istore X [(5, _), (4, _), (3, _), (0, _), (1, _)] dX2_notesLedBy_41 (by decide) rfl rfl ?_
      refine g_aload_n X dX2_notesLedBy_43 rfl 3 rfl rfl ?_
      refine gH_get_House_stamps X dX2_notesLedBy_44 hinX20 hl35 rfl ?_
      refine g_iload X dX2_notesLedBy_47 0 rfl rfl ?_
      refine g_callVRsq (n := 1) (As := [_]) (rest := []) X (c_X4_has l D _ _ _ _ mk hmk h40 _) gX2_notesLedBy_X4_has rfl (by decide +kernel) ⟨Nat.le_of_ble_eq_true rfl, Nat.le_of_ble_eq_true rfl⟩ 5 rfl rfl  rfl rfl (Nat.le_of_ble_eq_true rfl) dX2_notesLedBy_49 ⟨Nat.le_of_ble_eq_true rfl, Nat.le_of_ble_eq_true rfl⟩ rfl (fun v hv => ?_)
      obtain rfl := hv
      refine g_st (st' := [_]) rfl ?_
      refine g_if_eq X dX2_notesLedBy_52 71 (by decide) rfl (fun h52 => ?_) (fun h52 => ?_)
      · replace h52 := b2i_0 h52
        have e6 : ledM f gi di = -6 := by
          rcases hdo (10 * gi + di) (by omega) with z | ⟨s, hs, z⟩
          · exact z
          · rw [show ledM f gi di = nI s from z, rng_nI' hs (by omega)] at h52; exact absurd h52 (by decide)
        refine g_iinc (v := nI (i + 1)) X [(4, _), (5, _), (3, _), (0, _), (1, _)] dX2_notesLedBy_71 1 rfl (nI_add (i) 1) (by decide) rfl rfl ?_
        refine g_goto X dX2_notesLedBy_74 5 (by decide) ?_
        refine g_lv [0, 2, 3, 4] [(4, _), (3, _), (0, _), (1, _)] rfl ?_
        refine ih (n - (i + 1)) (by omega) (i + 1) _ (by omega) rfl ?_
        rw [mskN, hM]
        first
        | rw [if_pos ((nl_t (hl.trans es) (by omega)).trans h61)]
        | rw [if_neg (fun z => Bool.false_ne_true (h61.symm.trans ((nl_t (hl.trans es) (by omega)).symm.trans z)))]
        | rw [if_neg (fun z => Bool.false_ne_true ((nl_f (L := L) (hl.trans e6)).symm.trans z))]
      · replace h52 := b2i_n0 h52
        obtain ⟨sN, hsN, es⟩ := rng_nI h52
        refine g_lload_n X dX2_notesLedBy_55 rfl 4 rfl rfl ?_
        refine g_iload X dX2_notesLedBy_56 0 rfl rfl ?_
        refine g_topi es ?_
        refine g_callSNR (n := 2) (As := [_, _]) (rest := []) X (c_X6_isIn l D L sN hL (by omega)) gX2_notesLedBy_X6_isIn_n117 (List.mem_of_getElem? (i := 13) rfl) (by decide +kernel) (List.mem_of_getElem? (i := 21) rfl) rfl (by decide +kernel) ⟨Nat.le_of_ble_eq_true rfl, Nat.le_of_ble_eq_true rfl⟩ [] rfl rfl rfl rfl (Nat.le_of_ble_eq_true rfl) dX2_notesLedBy_58 ⟨Nat.le_of_ble_eq_true rfl, Nat.le_of_ble_eq_true rfl⟩ rfl (fun v hv => ?_)
        obtain rfl := hv
        refine g_st (st' := [_]) rfl ?_
        refine g_if_eq X dX2_notesLedBy_61 71 (by decide) rfl (fun h61 => ?_) (fun h61 => ?_)
        · replace h61 := b2i_0 h61
          refine g_iinc (v := nI (i + 1)) X [(4, _), (5, _), (3, _), (0, _), (1, _)] dX2_notesLedBy_71 1 rfl (nI_add (i) 1) (by decide) rfl rfl ?_
          refine g_goto X dX2_notesLedBy_74 5 (by decide) ?_
          refine g_lv [0, 2, 3, 4] [(4, _), (3, _), (0, _), (1, _)] rfl ?_
          refine ih (n - (i + 1)) (by omega) (i + 1) _ (by omega) rfl ?_
          rw [mskN, hM]
          first
          | rw [if_pos ((nl_t (hl.trans es) (by omega)).trans h61)]
          | rw [if_neg (fun z => Bool.false_ne_true (h61.symm.trans ((nl_t (hl.trans es) (by omega)).symm.trans z)))]
          | rw [if_neg (fun z => Bool.false_ne_true ((nl_f (L := L) (hl.trans e6)).symm.trans z))]
        · replace h61 := b2i_n0 h61
          refine g_iload_n X dX2_notesLedBy_64 rfl 2 rfl rfl ?_
          refine g_iconst (v := (1 : Int32)) X dX2_notesLedBy_65 (by decide) rfl ?_
          refine g_iload X dX2_notesLedBy_66 1 rfl rfl ?_
          refine g_ishl X dX2_notesLedBy_68 rfl ?_
          refine g_ior X dX2_notesLedBy_69 rfl ?_
          refine g_topi (imsk hMl (by omega)) ?_
          refine g_istore_n X [(3, _), (5, _), (4, _), (0, _), (1, _)] dX2_notesLedBy_70 rfl (by decide) rfl rfl ?_
          refine g_iinc (v := nI (i + 1)) X [(4, _), (3, _), (5, _), (0, _), (1, _)] dX2_notesLedBy_71 2 rfl (nI_add (i) 1) (by decide) rfl rfl ?_
          refine g_goto X dX2_notesLedBy_74 5 (by decide) ?_
          refine g_lv [0, 1, 3, 4] [(4, _), (3, _), (0, _), (1, _)] rfl ?_
          refine ih (n - (i + 1)) (by omega) (i + 1) _ (by omega) rfl ?_
          rw [mskN, hM]
          first
          | rw [if_pos ((nl_t (hl.trans es) (by omega)).trans h61)]
          | rw [if_neg (fun z => Bool.false_ne_true (h61.symm.trans ((nl_t (hl.trans es) (by omega)).symm.trans z)))]
          | rw [if_neg (fun z => Bool.false_ne_true ((nl_f (L := L) (hl.trans e6)).symm.trans z))]
  exact L5 n 0 0 (by omega) rfl rfl

set_option maxHeartbeats 4000000 in
set_option maxRecDepth 100000 in
theorem c_X5_reasonAt (l : Launch) (D : DT) (a : Nat → Nat) (f : Nat → Int32) (na : Nat → Nat → Int32) (w : Nat → Int32) (mk : Nat) (hmk : f 76 = nI mk) (h40 : mk ≤ 40) (hst : ∀ s, s < mk → stOK f s) (how : ∀ p, p < 12 → f (4 + p) = -6 ∨ ∃ g : Nat, g < 6 ∧ f (4 + p) = nI g) (q : Nat) (hq : q < mk) (b : Bool) (g nd : Int32) : MR l yX5_reasonAt wsX5_reasonAt 2 46 D [.ref (a 0), .int (nI q), .int (b2i b), .int g, .int nd] (wHW D a f na w) (fun v => v = some (.int (rsnAt f q b g nd))) := by
  obtain ⟨-, -, -, -, -, ⟨b5, e5⟩, ⟨b6, e6⟩⟩ := id (hst q hq)
  refine MR.of (cc := cX5_reasonAt) (maxL := 6) (ret := (some .int)) (lv := [(0, .ref (a 0)), (1, .int (nI q)), (2, .int (b2i b)), (3, .int g), (4, .int nd)]) (by decide +kernel) rfl (Nat.le_of_ble_eq_true rfl) rfl ?_
  intro p e s m below meth c A X hr hmn
  have hinX20 : ∀ w ∈ wsX20, w ∈ wsX5_reasonAt := fun w h => List.mem_cons_of_mem _ (List.mem_append_left _ (List.mem_append_right _ h))
  have hinX40 : ∀ w ∈ wsX40, w ∈ wsX5_reasonAt := fun w h => List.mem_cons_of_mem _ (List.mem_append_right _ h)
  have hl21 := List.mem_of_getElem? (l := wsX5_reasonAt) (i := 1) rfl
  have hl42 := List.mem_of_getElem? (l := wsX5_reasonAt) (i := 2) rfl
  have hl45 := List.mem_of_getElem? (l := wsX5_reasonAt) (i := 3) rfl
  have hl53 := List.mem_of_getElem? (l := wsX5_reasonAt) (i := 4) rfl
  have hl56 := List.mem_of_getElem? (l := wsX5_reasonAt) (i := 5) rfl
  refine g_aload_n X dX5_reasonAt_0 rfl 0 rfl rfl ?_
  refine gH_get_House_stamps X dX5_reasonAt_1 hinX20 hl21 rfl ?_
  refine g_astore X [(5, _), (0, _), (1, _), (2, _), (3, _), (4, _)] dX5_reasonAt_4 (by decide) rfl rfl ?_
  refine g_iload_n X dX5_reasonAt_6 rfl 3 rfl rfl ?_
  refine g_if_eq X dX5_reasonAt_7 23 (by decide) rfl (fun h7 => ?_) (fun h7 => ?_)
  · replace h7 := b2i_0 h7
    refine g_aload X dX5_reasonAt_23 0 rfl rfl ?_
    refine gH_get_Stamps_forged X dX5_reasonAt_25 hinX40 hl45 rfl ?_
    refine g_iload_n X dX5_reasonAt_28 rfl 2 rfl rfl ?_
    refine g_callSNR (n := 2) (As := [_, _]) (rest := []) X (c_X6_isIn l D (mkB f 5) q (mkB_lt f 5) (by omega)) gX5_reasonAt_X6_isIn_n49 (List.mem_of_getElem? (i := 7) rfl) (by decide +kernel) (List.mem_of_getElem? (i := 6) rfl) rfl (by decide +kernel) ⟨Nat.le_of_ble_eq_true rfl, Nat.le_of_ble_eq_true rfl⟩ [] rfl rfl rfl rfl (Nat.le_of_ble_eq_true rfl) dX5_reasonAt_29 ⟨Nat.le_of_ble_eq_true rfl, Nat.le_of_ble_eq_true rfl⟩ rfl (fun v hv => ?_)
    obtain rfl := hv
    refine g_st (st' := [_]) rfl ?_
    refine g_topi (congrArg b2i (mkB_b (j := 5) (by omega) e5)) ?_
    refine g_if_eq X dX5_reasonAt_32 37 (by decide) rfl (fun h32 => ?_) (fun h32 => ?_)
    · replace h32 := b2i_0 h32
      refine g_aload X dX5_reasonAt_37 0 rfl rfl ?_
      refine gH_get_Stamps_taken X dX5_reasonAt_39 hinX40 hl53 rfl ?_
      refine g_iload_n X dX5_reasonAt_42 rfl 2 rfl rfl ?_
      refine g_callSNR (n := 2) (As := [_, _]) (rest := []) X (c_X6_isIn l D (mkB f 6) q (mkB_lt f 6) (by omega)) gX5_reasonAt_X6_isIn_n49 (List.mem_of_getElem? (i := 7) rfl) (by decide +kernel) (List.mem_of_getElem? (i := 6) rfl) rfl (by decide +kernel) ⟨Nat.le_of_ble_eq_true rfl, Nat.le_of_ble_eq_true rfl⟩ [] rfl rfl rfl rfl (Nat.le_of_ble_eq_true rfl) dX5_reasonAt_43 ⟨Nat.le_of_ble_eq_true rfl, Nat.le_of_ble_eq_true rfl⟩ rfl (fun v hv => ?_)
      obtain rfl := hv
      refine g_st (st' := [_]) rfl ?_
      refine g_topi (congrArg b2i (mkB_b (j := 6) (by omega) e6)) ?_
      refine g_if_eq X dX5_reasonAt_46 51 (by decide) rfl (fun h46 => ?_) (fun h46 => ?_)
      · replace h46 := b2i_0 h46
        refine g_iload_n X dX5_reasonAt_51 rfl 3 rfl rfl ?_
        refine g_if_eq X dX5_reasonAt_52 70 (by decide) rfl (fun h52 => ?_) (fun h52 => ?_)
        · replace h52 := b2i_0 h52
          refine g_aload_n X dX5_reasonAt_70 rfl 1 rfl rfl ?_
          refine g_iload_n X dX5_reasonAt_71 rfl 2 rfl rfl ?_
          refine g_callVRsq (n := 1) (As := [_]) (rest := []) X (c_X2_isBacked l D _ _ _ _ mk hmk h40 hst how q hq) gX5_reasonAt_X2_isBacked rfl (by decide +kernel) ⟨Nat.le_of_ble_eq_true rfl, Nat.le_of_ble_eq_true rfl⟩ 0 rfl rfl  rfl rfl (Nat.le_of_ble_eq_true rfl) dX5_reasonAt_72 ⟨Nat.le_of_ble_eq_true rfl, Nat.le_of_ble_eq_true rfl⟩ rfl (fun v hv => ?_)
          obtain rfl := hv
          refine g_st (st' := [_]) rfl ?_
          refine g_if_eq X dX5_reasonAt_75 82 (by decide) rfl (fun h75 => ?_) (fun h75 => ?_)
          · replace h75 := b2i_0 h75
            refine g_bipush (v := (6 : Int32)) X dX5_reasonAt_82 (by decide) rfl ?_
            refine g_retR X hr (by first | rfl | exact b2i_nar _) dX5_reasonAt_84 ?_
            exact congrArg (fun x => some (Value.int x)) (by first | (simp [rsnAt, b2i, *]; done) | (simp_all [rsnAt, b2i]; done))
          · replace h75 := b2i_n0 h75
            refine g_iconst (v := (0 : Int32)) X dX5_reasonAt_78 (by decide) rfl ?_
            refine g_goto X dX5_reasonAt_79 84 (by decide) ?_
            refine g_retR X hr (by first | rfl | exact b2i_nar _) dX5_reasonAt_84 ?_
            exact congrArg (fun x => some (Value.int x)) (by first | (simp [rsnAt, b2i, *]; done) | (simp_all [rsnAt, b2i]; done))
        · replace h52 := b2i_n0 h52
          refine g_aload X dX5_reasonAt_55 0 rfl rfl ?_
          refine gH_get_Stamps_rights X dX5_reasonAt_57 hinX40 hl56 rfl ?_
          refine g_iload_n X dX5_reasonAt_60 rfl 2 rfl rfl ?_
          refine gS_ld_rights X dX5_reasonAt_61 (by first | rfl | assumption) (by omega) rfl ?_
          refine g_iload X dX5_reasonAt_62 5 rfl rfl ?_
          refine g_iand X dX5_reasonAt_64 rfl ?_
          refine g_if_ne X dX5_reasonAt_65 70 (by decide) rfl (fun h65 => ?_) (fun h65 => ?_)
          · refine g_aload_n X dX5_reasonAt_70 rfl 1 rfl rfl ?_
            refine g_iload_n X dX5_reasonAt_71 rfl 2 rfl rfl ?_
            refine g_callVRsq (n := 1) (As := [_]) (rest := []) X (c_X2_isBacked l D _ _ _ _ mk hmk h40 hst how q hq) gX5_reasonAt_X2_isBacked rfl (by decide +kernel) ⟨Nat.le_of_ble_eq_true rfl, Nat.le_of_ble_eq_true rfl⟩ 0 rfl rfl  rfl rfl (Nat.le_of_ble_eq_true rfl) dX5_reasonAt_72 ⟨Nat.le_of_ble_eq_true rfl, Nat.le_of_ble_eq_true rfl⟩ rfl (fun v hv => ?_)
            obtain rfl := hv
            refine g_st (st' := [_]) rfl ?_
            refine g_if_eq X dX5_reasonAt_75 82 (by decide) rfl (fun h75 => ?_) (fun h75 => ?_)
            · replace h75 := b2i_0 h75
              refine g_bipush (v := (6 : Int32)) X dX5_reasonAt_82 (by decide) rfl ?_
              refine g_retR X hr (by first | rfl | exact b2i_nar _) dX5_reasonAt_84 ?_
              exact congrArg (fun x => some (Value.int x)) (by first | (simp [rsnAt, b2i, *]; done) | (simp_all [rsnAt, b2i]; done))
            · replace h75 := b2i_n0 h75
              refine g_iconst (v := (0 : Int32)) X dX5_reasonAt_78 (by decide) rfl ?_
              refine g_goto X dX5_reasonAt_79 84 (by decide) ?_
              refine g_retR X hr (by first | rfl | exact b2i_nar _) dX5_reasonAt_84 ?_
              exact congrArg (fun x => some (Value.int x)) (by first | (simp [rsnAt, b2i, *]; done) | (simp_all [rsnAt, b2i]; done))
          · refine g_iconst (v := (5 : Int32)) X dX5_reasonAt_68 (by decide) rfl ?_
            refine g_retR X hr (by first | rfl | exact b2i_nar _) dX5_reasonAt_69 ?_
            exact congrArg (fun x => some (Value.int x)) (by first | (simp [rsnAt, b2i, *]; done) | (simp_all [rsnAt, b2i]; done))
      · replace h46 := b2i_n0 h46
        refine g_iconst (v := (4 : Int32)) X dX5_reasonAt_49 (by decide) rfl ?_
        refine g_retR X hr (by first | rfl | exact b2i_nar _) dX5_reasonAt_50 ?_
        exact congrArg (fun x => some (Value.int x)) (by first | (simp [rsnAt, b2i, *]; done) | (simp_all [rsnAt, b2i]; done))
    · replace h32 := b2i_n0 h32
      refine g_iconst (v := (3 : Int32)) X dX5_reasonAt_35 (by decide) rfl ?_
      refine g_retR X hr (by first | rfl | exact b2i_nar _) dX5_reasonAt_36 ?_
      exact congrArg (fun x => some (Value.int x)) (by first | (simp [rsnAt, b2i, *]; done) | (simp_all [rsnAt, b2i]; done))
  · replace h7 := b2i_n0 h7
    refine g_aload X dX5_reasonAt_10 0 rfl rfl ?_
    refine gH_get_Stamps_holder X dX5_reasonAt_12 hinX40 hl42 rfl ?_
    refine g_iload_n X dX5_reasonAt_15 rfl 2 rfl rfl ?_
    refine gS_ld_holder X dX5_reasonAt_16 (by first | rfl | assumption) (by omega) rfl ?_
    refine g_iload_n X dX5_reasonAt_17 rfl 4 rfl rfl ?_
    refine g_icmp_eq X dX5_reasonAt_18 23 (by decide) rfl (fun h18 => ?_) (fun h18 => ?_)
    · refine g_aload X dX5_reasonAt_23 0 rfl rfl ?_
      refine gH_get_Stamps_forged X dX5_reasonAt_25 hinX40 hl45 rfl ?_
      refine g_iload_n X dX5_reasonAt_28 rfl 2 rfl rfl ?_
      refine g_callSNR (n := 2) (As := [_, _]) (rest := []) X (c_X6_isIn l D (mkB f 5) q (mkB_lt f 5) (by omega)) gX5_reasonAt_X6_isIn_n49 (List.mem_of_getElem? (i := 7) rfl) (by decide +kernel) (List.mem_of_getElem? (i := 6) rfl) rfl (by decide +kernel) ⟨Nat.le_of_ble_eq_true rfl, Nat.le_of_ble_eq_true rfl⟩ [] rfl rfl rfl rfl (Nat.le_of_ble_eq_true rfl) dX5_reasonAt_29 ⟨Nat.le_of_ble_eq_true rfl, Nat.le_of_ble_eq_true rfl⟩ rfl (fun v hv => ?_)
      obtain rfl := hv
      refine g_st (st' := [_]) rfl ?_
      refine g_topi (congrArg b2i (mkB_b (j := 5) (by omega) e5)) ?_
      refine g_if_eq X dX5_reasonAt_32 37 (by decide) rfl (fun h32 => ?_) (fun h32 => ?_)
      · replace h32 := b2i_0 h32
        refine g_aload X dX5_reasonAt_37 0 rfl rfl ?_
        refine gH_get_Stamps_taken X dX5_reasonAt_39 hinX40 hl53 rfl ?_
        refine g_iload_n X dX5_reasonAt_42 rfl 2 rfl rfl ?_
        refine g_callSNR (n := 2) (As := [_, _]) (rest := []) X (c_X6_isIn l D (mkB f 6) q (mkB_lt f 6) (by omega)) gX5_reasonAt_X6_isIn_n49 (List.mem_of_getElem? (i := 7) rfl) (by decide +kernel) (List.mem_of_getElem? (i := 6) rfl) rfl (by decide +kernel) ⟨Nat.le_of_ble_eq_true rfl, Nat.le_of_ble_eq_true rfl⟩ [] rfl rfl rfl rfl (Nat.le_of_ble_eq_true rfl) dX5_reasonAt_43 ⟨Nat.le_of_ble_eq_true rfl, Nat.le_of_ble_eq_true rfl⟩ rfl (fun v hv => ?_)
        obtain rfl := hv
        refine g_st (st' := [_]) rfl ?_
        refine g_topi (congrArg b2i (mkB_b (j := 6) (by omega) e6)) ?_
        refine g_if_eq X dX5_reasonAt_46 51 (by decide) rfl (fun h46 => ?_) (fun h46 => ?_)
        · replace h46 := b2i_0 h46
          refine g_iload_n X dX5_reasonAt_51 rfl 3 rfl rfl ?_
          refine g_if_eq X dX5_reasonAt_52 70 (by decide) rfl (fun h52 => ?_) (fun h52 => ?_)
          · replace h52 := b2i_0 h52
            refine g_aload_n X dX5_reasonAt_70 rfl 1 rfl rfl ?_
            refine g_iload_n X dX5_reasonAt_71 rfl 2 rfl rfl ?_
            refine g_callVRsq (n := 1) (As := [_]) (rest := []) X (c_X2_isBacked l D _ _ _ _ mk hmk h40 hst how q hq) gX5_reasonAt_X2_isBacked rfl (by decide +kernel) ⟨Nat.le_of_ble_eq_true rfl, Nat.le_of_ble_eq_true rfl⟩ 0 rfl rfl  rfl rfl (Nat.le_of_ble_eq_true rfl) dX5_reasonAt_72 ⟨Nat.le_of_ble_eq_true rfl, Nat.le_of_ble_eq_true rfl⟩ rfl (fun v hv => ?_)
            obtain rfl := hv
            refine g_st (st' := [_]) rfl ?_
            refine g_if_eq X dX5_reasonAt_75 82 (by decide) rfl (fun h75 => ?_) (fun h75 => ?_)
            · replace h75 := b2i_0 h75
              refine g_bipush (v := (6 : Int32)) X dX5_reasonAt_82 (by decide) rfl ?_
              refine g_retR X hr (by first | rfl | exact b2i_nar _) dX5_reasonAt_84 ?_
              exact congrArg (fun x => some (Value.int x)) (by first | (simp [rsnAt, b2i, *]; done) | (simp_all [rsnAt, b2i]; done))
            · replace h75 := b2i_n0 h75
              refine g_iconst (v := (0 : Int32)) X dX5_reasonAt_78 (by decide) rfl ?_
              refine g_goto X dX5_reasonAt_79 84 (by decide) ?_
              refine g_retR X hr (by first | rfl | exact b2i_nar _) dX5_reasonAt_84 ?_
              exact congrArg (fun x => some (Value.int x)) (by first | (simp [rsnAt, b2i, *]; done) | (simp_all [rsnAt, b2i]; done))
          · replace h52 := b2i_n0 h52
            refine g_aload X dX5_reasonAt_55 0 rfl rfl ?_
            refine gH_get_Stamps_rights X dX5_reasonAt_57 hinX40 hl56 rfl ?_
            refine g_iload_n X dX5_reasonAt_60 rfl 2 rfl rfl ?_
            refine gS_ld_rights X dX5_reasonAt_61 (by first | rfl | assumption) (by omega) rfl ?_
            refine g_iload X dX5_reasonAt_62 5 rfl rfl ?_
            refine g_iand X dX5_reasonAt_64 rfl ?_
            refine g_if_ne X dX5_reasonAt_65 70 (by decide) rfl (fun h65 => ?_) (fun h65 => ?_)
            · refine g_aload_n X dX5_reasonAt_70 rfl 1 rfl rfl ?_
              refine g_iload_n X dX5_reasonAt_71 rfl 2 rfl rfl ?_
              refine g_callVRsq (n := 1) (As := [_]) (rest := []) X (c_X2_isBacked l D _ _ _ _ mk hmk h40 hst how q hq) gX5_reasonAt_X2_isBacked rfl (by decide +kernel) ⟨Nat.le_of_ble_eq_true rfl, Nat.le_of_ble_eq_true rfl⟩ 0 rfl rfl  rfl rfl (Nat.le_of_ble_eq_true rfl) dX5_reasonAt_72 ⟨Nat.le_of_ble_eq_true rfl, Nat.le_of_ble_eq_true rfl⟩ rfl (fun v hv => ?_)
              obtain rfl := hv
              refine g_st (st' := [_]) rfl ?_
              refine g_if_eq X dX5_reasonAt_75 82 (by decide) rfl (fun h75 => ?_) (fun h75 => ?_)
              · replace h75 := b2i_0 h75
                refine g_bipush (v := (6 : Int32)) X dX5_reasonAt_82 (by decide) rfl ?_
                refine g_retR X hr (by first | rfl | exact b2i_nar _) dX5_reasonAt_84 ?_
                exact congrArg (fun x => some (Value.int x)) (by first | (simp [rsnAt, b2i, *]; done) | (simp_all [rsnAt, b2i]; done))
              · replace h75 := b2i_n0 h75
                refine g_iconst (v := (0 : Int32)) X dX5_reasonAt_78 (by decide) rfl ?_
                refine g_goto X dX5_reasonAt_79 84 (by decide) ?_
                refine g_retR X hr (by first | rfl | exact b2i_nar _) dX5_reasonAt_84 ?_
                exact congrArg (fun x => some (Value.int x)) (by first | (simp [rsnAt, b2i, *]; done) | (simp_all [rsnAt, b2i]; done))
            · refine g_iconst (v := (5 : Int32)) X dX5_reasonAt_68 (by decide) rfl ?_
              refine g_retR X hr (by first | rfl | exact b2i_nar _) dX5_reasonAt_69 ?_
              exact congrArg (fun x => some (Value.int x)) (by first | (simp [rsnAt, b2i, *]; done) | (simp_all [rsnAt, b2i]; done))
        · replace h46 := b2i_n0 h46
          refine g_iconst (v := (4 : Int32)) X dX5_reasonAt_49 (by decide) rfl ?_
          refine g_retR X hr (by first | rfl | exact b2i_nar _) dX5_reasonAt_50 ?_
          exact congrArg (fun x => some (Value.int x)) (by first | (simp [rsnAt, b2i, *]; done) | (simp_all [rsnAt, b2i]; done))
      · replace h32 := b2i_n0 h32
        refine g_iconst (v := (3 : Int32)) X dX5_reasonAt_35 (by decide) rfl ?_
        refine g_retR X hr (by first | rfl | exact b2i_nar _) dX5_reasonAt_36 ?_
        exact congrArg (fun x => some (Value.int x)) (by first | (simp [rsnAt, b2i, *]; done) | (simp_all [rsnAt, b2i]; done))
    · refine g_iconst (v := (2 : Int32)) X dX5_reasonAt_21 (by decide) rfl ?_
      refine g_retR X hr (by first | rfl | exact b2i_nar _) dX5_reasonAt_22 ?_
      exact congrArg (fun x => some (Value.int x)) (by first | (simp [rsnAt, b2i, *]; done) | (simp_all [rsnAt, b2i]; done))

set_option maxHeartbeats 4000000 in
set_option maxRecDepth 100000 in
theorem c_X5_go (l : Launch) (D : DT) (a : Nat → Nat) (f : Nat → Int32) (na : Nat → Nat → Int32) (w : Nat → Int32) (mk : Nat) (hmk : f 76 = nI mk) (h40 : mk ≤ 40) (hst : ∀ s, s < mk → stOK f s) (how : ∀ p, p < 12 → f (4 + p) = -6 ∨ ∃ g : Nat, g < 6 ∧ f (4 + p) = nI g) (hdo : ∀ k, k < 60 → f (16 + k) = -6 ∨ ∃ s : Nat, s < mk ∧ f (16 + k) = nI s) (g d : Nat) (hg : g < 6) (hd : d < 10) (nd : Int32) : MW l yX5_go wsX5_go 3 71 0 0 D [.ref (a 18), .ref (a 0), .int (nI g), .int (nI d), .int nd] (wHW D a f na w) (fun v w2 => v = none ∧ ∃ w1 : Nat → Int32, w2 = (wHW D a f na w1) ∧ w1 0 = (wlk f g d nd).1 ∧ w1 1 = nI (wlk f g d nd).2) := by
  refine MW.of (cc := cX5_go) (maxL := 7) (ret := none) (lv := [(0, .ref (a 18)), (1, .ref (a 0)), (2, .int (nI g)), (3, .int (nI d)), (4, .int nd)]) (by decide +kernel) rfl (Nat.le_of_ble_eq_true rfl) rfl ?_
  intro p e s m below meth c A hAe hAg X hr hmn
  have hinX50 : ∀ w ∈ wsX50, w ∈ wsX5_go := fun w h => List.mem_cons_of_mem _ (List.mem_append_left _ (List.mem_append_left _ (List.mem_append_right _ h)))
  have hinX20 : ∀ w ∈ wsX20, w ∈ wsX5_go := fun w h => List.mem_cons_of_mem _ (List.mem_append_left _ (List.mem_append_right _ h))
  have hinX40 : ∀ w ∈ wsX40, w ∈ wsX5_go := fun w h => List.mem_cons_of_mem _ (List.mem_append_right _ h)
  have hl15 := List.mem_of_getElem? (l := wsX5_go) (i := 1) rfl
  have hl21 := List.mem_of_getElem? (l := wsX5_go) (i := 2) rfl
  have hl31 := List.mem_of_getElem? (l := wsX5_go) (i := 3) rfl
  have hl38 := List.mem_of_getElem? (l := wsX5_go) (i := 4) rfl
  refine g_aload_n X dX5_go_0 rfl 1 rfl rfl ?_
  refine g_iload_n X dX5_go_1 rfl 2 rfl rfl ?_
  refine g_iload_n X dX5_go_2 rfl 3 rfl rfl ?_
  refine g_callVRsq (n := 2) (As := [_, _]) (rest := []) X (c_X2_ledBy l D _ _ _ _ g d hg hd) gX5_go_X2_ledBy rfl (by decide +kernel) ⟨Nat.le_of_ble_eq_true rfl, Nat.le_of_ble_eq_true rfl⟩ 0 rfl rfl  rfl rfl (Nat.le_of_ble_eq_true rfl) dX5_go_3 ⟨Nat.le_of_ble_eq_true rfl, Nat.le_of_ble_eq_true rfl⟩ rfl (fun v hv => ?_)
  obtain rfl := hv
  refine g_st (st' := [_]) rfl ?_
  refine g_istore X [(5, _), (0, _), (1, _), (2, _), (3, _), (4, _)] dX5_go_6 (by decide) rfl rfl ?_
  refine g_iload X dX5_go_8 0 rfl rfl ?_
  refine g_istore X [(6, _), (5, _), (0, _), (1, _), (2, _), (3, _), (4, _)] dX5_go_10 (by decide) rfl rfl ?_
  refine g_aload_n X dX5_go_12 rfl 2 rfl rfl ?_
  refine g_iconst (v := (0 : Int32)) X dX5_go_13 (by decide) rfl ?_
  refine gH_put_Walk_steps X rfl dX5_go_14 hinX50 hl15 rfl ?_
  refine g_aload_n X dX5_go_17 rfl 2 rfl rfl ?_
  refine g_aload_n X dX5_go_18 rfl 3 rfl rfl ?_
  refine gH_get_House_stamps X dX5_go_19 hinX20 hl21 rfl ?_
  refine g_iload X dX5_go_22 1 rfl rfl ?_
  refine g_callVRsq (n := 1) (As := [_]) (rest := [_]) X (c_X4_has l D _ _ _ _ mk hmk h40 _) gX5_go_X4_has rfl (by decide +kernel) ⟨Nat.le_of_ble_eq_true rfl, Nat.le_of_ble_eq_true rfl⟩ 5 rfl rfl  rfl rfl (Nat.le_of_ble_eq_true rfl) dX5_go_24 ⟨Nat.le_of_ble_eq_true rfl, Nat.le_of_ble_eq_true rfl⟩ rfl (fun v hv => ?_)
  obtain rfl := hv
  refine g_st (st' := [_, _]) rfl ?_
  refine g_if_eq X dX5_go_27 34 (by decide) rfl (fun h27 => ?_) (fun h27 => ?_)
  · replace h27 := b2i_0 h27
    refine g_iconst (v := (1 : Int32)) X dX5_go_34 (by decide) rfl ?_
    refine gH_put_Walk_reason X rfl dX5_go_35 hinX50 hl31 rfl ?_
    have L38 : ∀ (k i : Nat) (x rs : Int32) (w1 : Nat → Int32) (hk : i + k = 40) (hx : x = -6 ∨ ∃ r : Nat, r < k ∧ r < mk ∧ x = nI r) (hw0 : w1 0 = rs) (hw1 : w1 1 = nI i) (hR : wlkI f (nI g) nd (ledM f g d) (k + 1) x rs i = wlk f g d nd), GG p l e (wRoom 3 71 0 0) s m ([.ref (a 18), .ref (a 0), .int (nI g), .int (nI d), .int nd] : List Value).toArray below meth c D A 7 false 0 0 (MQ below (wrQ D (wHW D a f na w) s.heap.size (fun v w2 => v = none ∧ ∃ w1 : Nat → Int32, w2 = (wHW D a f na w1) ∧ w1 0 = (wlk f g d nd).1 ∧ w1 1 = nI (wlk f g d nd).2)) ([.ref (a 18), .ref (a 0), .int (nI g), .int (nI d), .int nd] : List Value).toArray s 0 0 (va_A (wHW D a f na w) s.heap.size)) (wHW D a f na w1) 38 [(6, .int x), (5, .int (ledM f g d)), (0, .ref (a 18)), (1, .ref (a 0)), (2, .int (nI g)), (3, .int (nI d)), (4, .int nd)] [] := by
      intro k
      induction k using Nat.strongRecOn with
      | _ k ih =>
      intro i x rs w1 hk hx hw0 hw1 hR
      refine g_aload_n X dX5_go_38 rfl 2 rfl rfl ?_
      refine gH_get_Walk_reason X dX5_go_39 hinX50 hl31 rfl ?_
      refine g_topi hw0 ?_
      refine g_if_ne X dX5_go_42 116 (by decide) rfl (fun h42 => ?_) (fun h42 => ?_)
      · have hE : wlk f g d nd = (rs, i) := by
          rw [← hR]
          refine wlkI_x ?_
          first
          | exact Or.inr h42
          | (rcases hx with z | ⟨r, hr1, hr2, z⟩
             · exact Or.inl (by rw [z]; exact neg6)
             · first
               | (exfalso; omega)
               | (exfalso; rw [z, rng_nI' hr2 (by omega)] at h63; exact absurd h63 (by decide)))
        refine g_vretW X hr dX5_go_116 hAe ?_
        exact ⟨rfl, w1, rfl, by rw [hE]; exact hw0, by rw [hE]; exact hw1⟩
      · refine g_aload_n X dX5_go_45 rfl 2 rfl rfl ?_
        refine gH_get_Walk_steps X dX5_go_46 hinX50 hl15 rfl ?_
        refine g_topi (hw1) ?_
        refine g_bipush (v := (40 : Int32)) X dX5_go_49 (by decide) rfl ?_
        refine g_icmp_ge X dX5_go_51 116 (by decide) rfl (fun h51 => ?_) (fun h51 => ?_)
        · have i51 := nj_le (a := 40) (b := i) (by omega) (by omega) h51
          have hE : wlk f g d nd = (rs, i) := by
            rw [← hR]
            refine wlkI_x ?_
            first
            | exact Or.inr h42
            | (rcases hx with z | ⟨r, hr1, hr2, z⟩
               · exact Or.inl (by rw [z]; exact neg6)
               · first
                 | (exfalso; omega)
                 | (exfalso; rw [z, rng_nI' hr2 (by omega)] at h63; exact absurd h63 (by decide)))
          refine g_vretW X hr dX5_go_116 hAe ?_
          exact ⟨rfl, w1, rfl, by rw [hE]; exact hw0, by rw [hE]; exact hw1⟩
        · have i51 := nj_nle (a := 40) (b := i) (by omega) (by omega) h51
          refine g_aload_n X dX5_go_54 rfl 3 rfl rfl ?_
          refine gH_get_House_stamps X dX5_go_55 hinX20 hl21 rfl ?_
          refine g_iload X dX5_go_58 0 rfl rfl ?_
          refine g_callVRsq (n := 1) (As := [_]) (rest := []) X (c_X4_has l D _ _ _ _ mk hmk h40 _) gX5_go_X4_has rfl (by decide +kernel) ⟨Nat.le_of_ble_eq_true rfl, Nat.le_of_ble_eq_true rfl⟩ 5 rfl rfl  rfl rfl (Nat.le_of_ble_eq_true rfl) dX5_go_60 ⟨Nat.le_of_ble_eq_true rfl, Nat.le_of_ble_eq_true rfl⟩ rfl (fun v hv => ?_)
          obtain rfl := hv
          refine g_st (st' := [_]) rfl ?_
          refine g_if_eq X dX5_go_63 116 (by decide) rfl (fun h63 => ?_) (fun h63 => ?_)
          · replace h63 := b2i_0 h63
            have hE : wlk f g d nd = (rs, i) := by
              rw [← hR]
              refine wlkI_x ?_
              first
              | exact Or.inr h42
              | (rcases hx with z | ⟨r, hr1, hr2, z⟩
                 · exact Or.inl (by rw [z]; exact neg6)
                 · first
                   | (exfalso; omega)
                   | (exfalso; rw [z, rng_nI' hr2 (by omega)] at h63; exact absurd h63 (by decide)))
            refine g_vretW X hr dX5_go_116 hAe ?_
            exact ⟨rfl, w1, rfl, by rw [hE]; exact hw0, by rw [hE]; exact hw1⟩
          · replace h63 := b2i_n0 h63
            obtain ⟨r, hrk, hrm, rfl⟩ := ch_x hx h63
            obtain ⟨-, -, -, -, hrt, -, -⟩ := id (hst r hrm)
            refine g_aload_n X dX5_go_66 rfl 2 rfl rfl ?_
            refine g_dup X dX5_go_67 rfl rfl ?_
            refine gH_get_Walk_steps X dX5_go_68 hinX50 hl15 rfl ?_
            refine g_topi (hw1) ?_
            refine g_iconst (v := (1 : Int32)) X dX5_go_71 (by decide) rfl ?_
            refine g_iadd X dX5_go_72 rfl ?_
            refine g_topi (y := nI (i + 1)) (nI_add (i) (1)) ?_
            refine gH_put_Walk_steps X rfl dX5_go_73 hinX50 hl15 rfl ?_
            refine g_aload_n X dX5_go_76 rfl 2 rfl rfl ?_
            refine g_aload_n X dX5_go_77 rfl 3 rfl rfl ?_
            refine g_iload X dX5_go_78 0 rfl rfl ?_
            refine g_iload X dX5_go_80 0 rfl rfl ?_
            refine g_iload X dX5_go_82 1 rfl rfl ?_
            refine g_icmp_ne X dX5_go_84 91 (by decide) rfl (fun h84 => ?_) (fun h84 => ?_)
            · refine g_iconst (v := (0 : Int32)) X dX5_go_91 (by decide) rfl ?_
              refine g_topi (y := b2i (decide (nI r = ledM f g d))) (by rw [decide_eq_false h84]; rfl) ?_
              refine g_iload_n X dX5_go_92 rfl 4 rfl rfl ?_
              refine g_iload X dX5_go_93 6 rfl rfl ?_
              refine g_callSRs (n := 5) (As := [_, _, _, _, _]) (rest := [_]) X (c_X5_reasonAt l D _ _ _ _ mk hmk h40 hst how r hrm (decide (nI r = ledM f g d)) (nI g) nd) gX5_go_X5_reasonAt rfl (by decide +kernel) ⟨Nat.le_of_ble_eq_true rfl, Nat.le_of_ble_eq_true rfl⟩  rfl rfl (Nat.le_of_ble_eq_true rfl) dX5_go_95 ⟨Nat.le_of_ble_eq_true rfl, Nat.le_of_ble_eq_true rfl⟩ rfl (fun v hv => ?_)
              obtain rfl := hv
              refine g_st (st' := [_, _]) rfl ?_
              refine gH_put_Walk_reason X rfl dX5_go_98 hinX50 hl31 rfl ?_
              refine g_aload_n X dX5_go_101 rfl 3 rfl rfl ?_
              refine gH_get_House_stamps X dX5_go_102 hinX20 hl21 rfl ?_
              refine gH_get_Stamps_root X dX5_go_105 hinX40 hl38 rfl ?_
              refine g_iload X dX5_go_108 0 rfl rfl ?_
              refine gS_ld_root X dX5_go_110 (by first | rfl | assumption) (by omega) rfl ?_
              refine g_istore X [(6, _), (5, _), (0, _), (1, _), (2, _), (3, _), (4, _)] dX5_go_111 (by decide) rfl rfl ?_
              refine g_goto X dX5_go_113 38 (by decide) ?_
              refine ih (k - 1) (by omega) (i + 1) _ _ _ (by omega) ?_ (up_s _ _ _) (by rw [up_n _ _ (by omega), up_s]) ?_
              · rcases hrt with z | ⟨r2, hr2, z⟩
                · exact Or.inl z
                · exact Or.inr ⟨r2, by omega, by omega, z⟩
              · rw [← hR, show rs = 0 from h42, show k - 1 + 1 = k from by omega, wlkI_s (by omega)]
            · refine g_iconst (v := (1 : Int32)) X dX5_go_87 (by decide) rfl ?_
              refine g_goto X dX5_go_88 92 (by decide) ?_
              refine g_topi (y := b2i (decide (nI r = ledM f g d))) (by rw [decide_eq_true h84]; rfl) ?_
              refine g_iload_n X dX5_go_92 rfl 4 rfl rfl ?_
              refine g_iload X dX5_go_93 6 rfl rfl ?_
              refine g_callSRs (n := 5) (As := [_, _, _, _, _]) (rest := [_]) X (c_X5_reasonAt l D _ _ _ _ mk hmk h40 hst how r hrm (decide (nI r = ledM f g d)) (nI g) nd) gX5_go_X5_reasonAt rfl (by decide +kernel) ⟨Nat.le_of_ble_eq_true rfl, Nat.le_of_ble_eq_true rfl⟩  rfl rfl (Nat.le_of_ble_eq_true rfl) dX5_go_95 ⟨Nat.le_of_ble_eq_true rfl, Nat.le_of_ble_eq_true rfl⟩ rfl (fun v hv => ?_)
              obtain rfl := hv
              refine g_st (st' := [_, _]) rfl ?_
              refine gH_put_Walk_reason X rfl dX5_go_98 hinX50 hl31 rfl ?_
              refine g_aload_n X dX5_go_101 rfl 3 rfl rfl ?_
              refine gH_get_House_stamps X dX5_go_102 hinX20 hl21 rfl ?_
              refine gH_get_Stamps_root X dX5_go_105 hinX40 hl38 rfl ?_
              refine g_iload X dX5_go_108 0 rfl rfl ?_
              refine gS_ld_root X dX5_go_110 (by first | rfl | assumption) (by omega) rfl ?_
              refine g_istore X [(6, _), (5, _), (0, _), (1, _), (2, _), (3, _), (4, _)] dX5_go_111 (by decide) rfl rfl ?_
              refine g_goto X dX5_go_113 38 (by decide) ?_
              refine ih (k - 1) (by omega) (i + 1) _ _ _ (by omega) ?_ (up_s _ _ _) (by rw [up_n _ _ (by omega), up_s]) ?_
              · rcases hrt with z | ⟨r2, hr2, z⟩
                · exact Or.inl z
                · exact Or.inr ⟨r2, by omega, by omega, z⟩
              · rw [← hR, show rs = 0 from h42, show k - 1 + 1 = k from by omega, wlkI_s (by omega)]
    refine L38 40 0 (ledM f g d) _ _ rfl ?_ (up_s _ _ _) (by rw [up_n _ _ (by omega), up_s]; rfl) ?_
    · rcases hdo (10 * g + d) (by omega) with z | ⟨s, hs, z⟩
      · exact Or.inl z
      · exact Or.inr ⟨s, by omega, hs, z⟩
    · unfold wlk
      first
      | (obtain ⟨s, hs, z⟩ := rng_nI h27
         rw [if_neg (by rw [z]; exact nI_pos (by omega))])
      | (have z : ledM f g d = -6 := by
           rcases hdo (10 * g + d) (by omega) with z | ⟨s, hs, z⟩
           · exact z
           · rw [show ledM f g d = nI s from z, rng_nI' hs (by omega)] at h27; exact absurd h27 (by decide)
         rw [if_pos (by rw [z]; exact neg6)])
  · replace h27 := b2i_n0 h27
    refine g_iconst (v := (0 : Int32)) X dX5_go_30 (by decide) rfl ?_
    refine g_goto X dX5_go_31 35 (by decide) ?_
    refine gH_put_Walk_reason X rfl dX5_go_35 hinX50 hl31 rfl ?_
    have L38 : ∀ (k i : Nat) (x rs : Int32) (w1 : Nat → Int32) (hk : i + k = 40) (hx : x = -6 ∨ ∃ r : Nat, r < k ∧ r < mk ∧ x = nI r) (hw0 : w1 0 = rs) (hw1 : w1 1 = nI i) (hR : wlkI f (nI g) nd (ledM f g d) (k + 1) x rs i = wlk f g d nd), GG p l e (wRoom 3 71 0 0) s m ([.ref (a 18), .ref (a 0), .int (nI g), .int (nI d), .int nd] : List Value).toArray below meth c D A 7 false 0 0 (MQ below (wrQ D (wHW D a f na w) s.heap.size (fun v w2 => v = none ∧ ∃ w1 : Nat → Int32, w2 = (wHW D a f na w1) ∧ w1 0 = (wlk f g d nd).1 ∧ w1 1 = nI (wlk f g d nd).2)) ([.ref (a 18), .ref (a 0), .int (nI g), .int (nI d), .int nd] : List Value).toArray s 0 0 (va_A (wHW D a f na w) s.heap.size)) (wHW D a f na w1) 38 [(6, .int x), (5, .int (ledM f g d)), (0, .ref (a 18)), (1, .ref (a 0)), (2, .int (nI g)), (3, .int (nI d)), (4, .int nd)] [] := by
      intro k
      induction k using Nat.strongRecOn with
      | _ k ih =>
      intro i x rs w1 hk hx hw0 hw1 hR
      refine g_aload_n X dX5_go_38 rfl 2 rfl rfl ?_
      refine gH_get_Walk_reason X dX5_go_39 hinX50 hl31 rfl ?_
      refine g_topi hw0 ?_
      refine g_if_ne X dX5_go_42 116 (by decide) rfl (fun h42 => ?_) (fun h42 => ?_)
      · have hE : wlk f g d nd = (rs, i) := by
          rw [← hR]
          refine wlkI_x ?_
          first
          | exact Or.inr h42
          | (rcases hx with z | ⟨r, hr1, hr2, z⟩
             · exact Or.inl (by rw [z]; exact neg6)
             · first
               | (exfalso; omega)
               | (exfalso; rw [z, rng_nI' hr2 (by omega)] at h63; exact absurd h63 (by decide)))
        refine g_vretW X hr dX5_go_116 hAe ?_
        exact ⟨rfl, w1, rfl, by rw [hE]; exact hw0, by rw [hE]; exact hw1⟩
      · refine g_aload_n X dX5_go_45 rfl 2 rfl rfl ?_
        refine gH_get_Walk_steps X dX5_go_46 hinX50 hl15 rfl ?_
        refine g_topi (hw1) ?_
        refine g_bipush (v := (40 : Int32)) X dX5_go_49 (by decide) rfl ?_
        refine g_icmp_ge X dX5_go_51 116 (by decide) rfl (fun h51 => ?_) (fun h51 => ?_)
        · have i51 := nj_le (a := 40) (b := i) (by omega) (by omega) h51
          have hE : wlk f g d nd = (rs, i) := by
            rw [← hR]
            refine wlkI_x ?_
            first
            | exact Or.inr h42
            | (rcases hx with z | ⟨r, hr1, hr2, z⟩
               · exact Or.inl (by rw [z]; exact neg6)
               · first
                 | (exfalso; omega)
                 | (exfalso; rw [z, rng_nI' hr2 (by omega)] at h63; exact absurd h63 (by decide)))
          refine g_vretW X hr dX5_go_116 hAe ?_
          exact ⟨rfl, w1, rfl, by rw [hE]; exact hw0, by rw [hE]; exact hw1⟩
        · have i51 := nj_nle (a := 40) (b := i) (by omega) (by omega) h51
          refine g_aload_n X dX5_go_54 rfl 3 rfl rfl ?_
          refine gH_get_House_stamps X dX5_go_55 hinX20 hl21 rfl ?_
          refine g_iload X dX5_go_58 0 rfl rfl ?_
          refine g_callVRsq (n := 1) (As := [_]) (rest := []) X (c_X4_has l D _ _ _ _ mk hmk h40 _) gX5_go_X4_has rfl (by decide +kernel) ⟨Nat.le_of_ble_eq_true rfl, Nat.le_of_ble_eq_true rfl⟩ 5 rfl rfl  rfl rfl (Nat.le_of_ble_eq_true rfl) dX5_go_60 ⟨Nat.le_of_ble_eq_true rfl, Nat.le_of_ble_eq_true rfl⟩ rfl (fun v hv => ?_)
          obtain rfl := hv
          refine g_st (st' := [_]) rfl ?_
          refine g_if_eq X dX5_go_63 116 (by decide) rfl (fun h63 => ?_) (fun h63 => ?_)
          · replace h63 := b2i_0 h63
            have hE : wlk f g d nd = (rs, i) := by
              rw [← hR]
              refine wlkI_x ?_
              first
              | exact Or.inr h42
              | (rcases hx with z | ⟨r, hr1, hr2, z⟩
                 · exact Or.inl (by rw [z]; exact neg6)
                 · first
                   | (exfalso; omega)
                   | (exfalso; rw [z, rng_nI' hr2 (by omega)] at h63; exact absurd h63 (by decide)))
            refine g_vretW X hr dX5_go_116 hAe ?_
            exact ⟨rfl, w1, rfl, by rw [hE]; exact hw0, by rw [hE]; exact hw1⟩
          · replace h63 := b2i_n0 h63
            obtain ⟨r, hrk, hrm, rfl⟩ := ch_x hx h63
            obtain ⟨-, -, -, -, hrt, -, -⟩ := id (hst r hrm)
            refine g_aload_n X dX5_go_66 rfl 2 rfl rfl ?_
            refine g_dup X dX5_go_67 rfl rfl ?_
            refine gH_get_Walk_steps X dX5_go_68 hinX50 hl15 rfl ?_
            refine g_topi (hw1) ?_
            refine g_iconst (v := (1 : Int32)) X dX5_go_71 (by decide) rfl ?_
            refine g_iadd X dX5_go_72 rfl ?_
            refine g_topi (y := nI (i + 1)) (nI_add (i) (1)) ?_
            refine gH_put_Walk_steps X rfl dX5_go_73 hinX50 hl15 rfl ?_
            refine g_aload_n X dX5_go_76 rfl 2 rfl rfl ?_
            refine g_aload_n X dX5_go_77 rfl 3 rfl rfl ?_
            refine g_iload X dX5_go_78 0 rfl rfl ?_
            refine g_iload X dX5_go_80 0 rfl rfl ?_
            refine g_iload X dX5_go_82 1 rfl rfl ?_
            refine g_icmp_ne X dX5_go_84 91 (by decide) rfl (fun h84 => ?_) (fun h84 => ?_)
            · refine g_iconst (v := (0 : Int32)) X dX5_go_91 (by decide) rfl ?_
              refine g_topi (y := b2i (decide (nI r = ledM f g d))) (by rw [decide_eq_false h84]; rfl) ?_
              refine g_iload_n X dX5_go_92 rfl 4 rfl rfl ?_
              refine g_iload X dX5_go_93 6 rfl rfl ?_
              refine g_callSRs (n := 5) (As := [_, _, _, _, _]) (rest := [_]) X (c_X5_reasonAt l D _ _ _ _ mk hmk h40 hst how r hrm (decide (nI r = ledM f g d)) (nI g) nd) gX5_go_X5_reasonAt rfl (by decide +kernel) ⟨Nat.le_of_ble_eq_true rfl, Nat.le_of_ble_eq_true rfl⟩  rfl rfl (Nat.le_of_ble_eq_true rfl) dX5_go_95 ⟨Nat.le_of_ble_eq_true rfl, Nat.le_of_ble_eq_true rfl⟩ rfl (fun v hv => ?_)
              obtain rfl := hv
              refine g_st (st' := [_, _]) rfl ?_
              refine gH_put_Walk_reason X rfl dX5_go_98 hinX50 hl31 rfl ?_
              refine g_aload_n X dX5_go_101 rfl 3 rfl rfl ?_
              refine gH_get_House_stamps X dX5_go_102 hinX20 hl21 rfl ?_
              refine gH_get_Stamps_root X dX5_go_105 hinX40 hl38 rfl ?_
              refine g_iload X dX5_go_108 0 rfl rfl ?_
              refine gS_ld_root X dX5_go_110 (by first | rfl | assumption) (by omega) rfl ?_
              refine g_istore X [(6, _), (5, _), (0, _), (1, _), (2, _), (3, _), (4, _)] dX5_go_111 (by decide) rfl rfl ?_
              refine g_goto X dX5_go_113 38 (by decide) ?_
              refine ih (k - 1) (by omega) (i + 1) _ _ _ (by omega) ?_ (up_s _ _ _) (by rw [up_n _ _ (by omega), up_s]) ?_
              · rcases hrt with z | ⟨r2, hr2, z⟩
                · exact Or.inl z
                · exact Or.inr ⟨r2, by omega, by omega, z⟩
              · rw [← hR, show rs = 0 from h42, show k - 1 + 1 = k from by omega, wlkI_s (by omega)]
            · refine g_iconst (v := (1 : Int32)) X dX5_go_87 (by decide) rfl ?_
              refine g_goto X dX5_go_88 92 (by decide) ?_
              refine g_topi (y := b2i (decide (nI r = ledM f g d))) (by rw [decide_eq_true h84]; rfl) ?_
              refine g_iload_n X dX5_go_92 rfl 4 rfl rfl ?_
              refine g_iload X dX5_go_93 6 rfl rfl ?_
              refine g_callSRs (n := 5) (As := [_, _, _, _, _]) (rest := [_]) X (c_X5_reasonAt l D _ _ _ _ mk hmk h40 hst how r hrm (decide (nI r = ledM f g d)) (nI g) nd) gX5_go_X5_reasonAt rfl (by decide +kernel) ⟨Nat.le_of_ble_eq_true rfl, Nat.le_of_ble_eq_true rfl⟩  rfl rfl (Nat.le_of_ble_eq_true rfl) dX5_go_95 ⟨Nat.le_of_ble_eq_true rfl, Nat.le_of_ble_eq_true rfl⟩ rfl (fun v hv => ?_)
              obtain rfl := hv
              refine g_st (st' := [_, _]) rfl ?_
              refine gH_put_Walk_reason X rfl dX5_go_98 hinX50 hl31 rfl ?_
              refine g_aload_n X dX5_go_101 rfl 3 rfl rfl ?_
              refine gH_get_House_stamps X dX5_go_102 hinX20 hl21 rfl ?_
              refine gH_get_Stamps_root X dX5_go_105 hinX40 hl38 rfl ?_
              refine g_iload X dX5_go_108 0 rfl rfl ?_
              refine gS_ld_root X dX5_go_110 (by first | rfl | assumption) (by omega) rfl ?_
              refine g_istore X [(6, _), (5, _), (0, _), (1, _), (2, _), (3, _), (4, _)] dX5_go_111 (by decide) rfl rfl ?_
              refine g_goto X dX5_go_113 38 (by decide) ?_
              refine ih (k - 1) (by omega) (i + 1) _ _ _ (by omega) ?_ (up_s _ _ _) (by rw [up_n _ _ (by omega), up_s]) ?_
              · rcases hrt with z | ⟨r2, hr2, z⟩
                · exact Or.inl z
                · exact Or.inr ⟨r2, by omega, by omega, z⟩
              · rw [← hR, show rs = 0 from h42, show k - 1 + 1 = k from by omega, wlkI_s (by omega)]
    refine L38 40 0 (ledM f g d) _ _ rfl ?_ (up_s _ _ _) (by rw [up_n _ _ (by omega), up_s]; rfl) ?_
    · rcases hdo (10 * g + d) (by omega) with z | ⟨s, hs, z⟩
      · exact Or.inl z
      · exact Or.inr ⟨s, by omega, hs, z⟩
    · unfold wlk
      first
      | (obtain ⟨s, hs, z⟩ := rng_nI h27
         rw [if_neg (by rw [z]; exact nI_pos (by omega))])
      | (have z : ledM f g d = -6 := by
           rcases hdo (10 * g + d) (by omega) with z | ⟨s, hs, z⟩
           · exact z
           · rw [show ledM f g d = nI s from z, rng_nI' hs (by omega)] at h27; exact absurd h27 (by decide)
         rw [if_pos (by rw [z]; exact neg6)])

set_option maxHeartbeats 4000000 in
set_option maxRecDepth 100000 in
theorem c_X2_wipeStale (l : Launch) (D : DT) (a : Nat → Nat) (f : Nat → Int32) (na : Nat → Nat → Int32) (w : Nat → Int32) (mk n b : Nat) (hW : WF f mk n b) (hNR : NR f na n) (f0 : Nat → Int32) (x : Int32) : MW l yX2_wipeStale wsX2_wipeStale 3 72 0 0 D [.ref (a 0), .int x, .long (lN (mskN (gd f0) mk))] (wHW D a f na w) (hPost D a (wipeS f0 f x n)) := by
  obtain ⟨hmk, h40, hn8, hb0, hb1, hb8, hnb, hst, hno, how, hdo, hs1, hs2, hs3, hZF⟩ := id hW
  have h8 : n ≤ 8 := by omega
  obtain ⟨eN1, eN2, eN3⟩ := hW.N
  refine MW.of (cc := cX2_wipeStale) (maxL := 4) (ret := (some .int)) (lv := [(0, .ref (a 0)), (1, .int x), (2, .long (lN (mskN (gd f0) mk)))]) (by decide +kernel) rfl (Nat.le_of_ble_eq_true rfl) rfl ?_
  intro p e s m below meth c A hAe hAg X hr hmn
  have hinX20 : ∀ w ∈ wsX20, w ∈ wsX2_wipeStale := fun w h => List.mem_cons_of_mem _ (List.mem_append_left _ (List.mem_append_left _ (List.mem_append_right _ h)))
  have hinX00 : ∀ w ∈ wsX00, w ∈ wsX2_wipeStale := fun w h => List.mem_cons_of_mem _ (List.mem_append_left _ (List.mem_append_right _ h))
  have hinX40 : ∀ w ∈ wsX40, w ∈ wsX2_wipeStale := fun w h => List.mem_cons_of_mem _ (List.mem_append_right _ h)
  have hl26 := List.mem_of_getElem? (l := wsX2_wipeStale) (i := 1) rfl
  have hl42 := List.mem_of_getElem? (l := wsX2_wipeStale) (i := 2) rfl
  refine g_aload_n X dX2_wipeStale_0 rfl 0 rfl rfl ?_
  refine gH_get_House_settings X dX2_wipeStale_1 hinX20 hl26 rfl ?_
  refine g_iconst (v := (2 : Int32)) X dX2_wipeStale_4 (by decide) rfl ?_
  refine gS_ld_settings X dX2_wipeStale_5 (k := 2) rfl (by decide) rfl ?_
  rcases Classical.em ((f 2) = (0 : Int32)) with ec6 | ne0
  · refine g_lookup X dX2_wipeStale_6 (by decide) (off := 26) (by rw [ec6]; decide) 32 (by decide) ?_
    refine g_aload_n X dX2_wipeStale_32 rfl 0 rfl rfl ?_
    refine gH_get_House_board X dX2_wipeStale_33 hinX20 hl42 rfl ?_
    refine g_aload_n X dX2_wipeStale_36 rfl 0 rfl rfl ?_
    refine gH_get_House_board X dX2_wipeStale_37 hinX20 hl42 rfl ?_
    refine g_callVRsq (n := 0) (As := []) (rest := [_]) X (c_X0_allNotes l D _ _ _ _ n hn8 h8) gX2_wipeStale_X0_allNotes rfl (by decide +kernel) ⟨Nat.le_of_ble_eq_true rfl, Nat.le_of_ble_eq_true rfl⟩ 11 rfl rfl  rfl rfl (Nat.le_of_ble_eq_true rfl) dX2_wipeStale_40 ⟨Nat.le_of_ble_eq_true rfl, Nat.le_of_ble_eq_true rfl⟩ rfl (fun v hv => ?_)
    obtain rfl := hv
    refine g_st (st' := [_, _]) rfl ?_
    refine g_callVWsq (n := 1) (As := [_]) (rest := []) X hAg rfl (c_X0_wipeThese l D _ _ _ _ n hn8 h8 hNR (fun _ => true)) gX2_wipeStale_X0_wipeThese rfl (by decide +kernel) ⟨Nat.le_of_ble_eq_true rfl, Nat.le_of_ble_eq_true rfl⟩ 11 rfl rfl  rfl rfl (Nat.le_of_ble_eq_true rfl) dX2_wipeStale_43 ⟨Nat.le_of_ble_eq_true rfl, Nat.le_of_ble_eq_true rfl⟩ rfl (fun v w hv => ?_)
    obtain ⟨rfl, nb, rfl, hN2⟩ := hv
    refine ⟨rfl, ?_⟩
    refine g_st (st' := [_]) rfl ?_
    refine g_retW X hr (by first | rfl | exact b2i_nar _) dX2_wipeStale_46 hAe ?_
    exact hPost_wk hn8 h8 (fun k _ => goM_0 ec6 k) hN2
  · rcases Classical.em ((f 2) = (1 : Int32)) with ec6 | ne1
    · refine g_lookup X dX2_wipeStale_6 (by decide) (off := 41) (by rw [ec6]; decide) 47 (by decide) ?_
      refine g_aload_n X dX2_wipeStale_47 rfl 0 rfl rfl ?_
      refine gH_get_House_board X dX2_wipeStale_48 hinX20 hl42 rfl ?_
      refine g_aload_n X dX2_wipeStale_51 rfl 0 rfl rfl ?_
      refine gH_get_House_board X dX2_wipeStale_52 hinX20 hl42 rfl ?_
      refine g_iload_n X dX2_wipeStale_55 rfl 1 rfl rfl ?_
      refine g_callVRsq (n := 1) (As := [_]) (rest := [_]) X (c_X0_notesOfPage l D _ _ _ _ n hn8 h8 hNR x) gX2_wipeStale_X0_notesOfPage rfl (by decide +kernel) ⟨Nat.le_of_ble_eq_true rfl, Nat.le_of_ble_eq_true rfl⟩ 11 rfl rfl  rfl rfl (Nat.le_of_ble_eq_true rfl) dX2_wipeStale_56 ⟨Nat.le_of_ble_eq_true rfl, Nat.le_of_ble_eq_true rfl⟩ rfl (fun v hv => ?_)
      obtain rfl := hv
      refine g_st (st' := [_, _]) rfl ?_
      refine g_callVWsq (n := 1) (As := [_]) (rest := []) X hAg rfl (c_X0_wipeThese l D _ _ _ _ n hn8 h8 hNR (fun k => decide (noteM f k 3 = x))) gX2_wipeStale_X0_wipeThese rfl (by decide +kernel) ⟨Nat.le_of_ble_eq_true rfl, Nat.le_of_ble_eq_true rfl⟩ 11 rfl rfl  rfl rfl (Nat.le_of_ble_eq_true rfl) dX2_wipeStale_59 ⟨Nat.le_of_ble_eq_true rfl, Nat.le_of_ble_eq_true rfl⟩ rfl (fun v w hv => ?_)
      obtain ⟨rfl, nb, rfl, hN2⟩ := hv
      refine ⟨rfl, ?_⟩
      refine g_st (st' := [_]) rfl ?_
      refine g_retW X hr (by first | rfl | exact b2i_nar _) dX2_wipeStale_62 hAe ?_
      exact hPost_wk hn8 h8 (fun k _ => goM_1 ec6 k) hN2
    · refine g_lookup X dX2_wipeStale_6 (by decide) (off := 57) (by show Op.lookupswitch.offset [(0, 26), (1, 41)] (57) ((f 2)).toInt = (57); rw [lv_osw (a := 0) ne0 rfl, lv_osw (a := 1) ne1 rfl]; rfl) 63 (by decide) ?_
      refine g_aload_n X dX2_wipeStale_63 rfl 0 rfl rfl ?_
      refine gH_get_House_board X dX2_wipeStale_64 hinX20 hl42 rfl ?_
      refine g_aload_n X dX2_wipeStale_67 rfl 0 rfl rfl ?_
      refine g_lload_n X dX2_wipeStale_68 rfl 2 rfl rfl ?_
      refine g_aload_n X dX2_wipeStale_69 rfl 0 rfl rfl ?_
      refine g_bipush (v := ((-6) : Int32)) X dX2_wipeStale_70 (by decide) rfl ?_
      refine g_callVRsq (n := 1) (As := [_]) (rest := [_, _, _]) X (c_X2_goodStamps l D _ _ _ _ mk hmk h40 hst how _ (Or.inl rfl)) gX2_wipeStale_X2_goodStamps rfl (by decide +kernel) ⟨Nat.le_of_ble_eq_true rfl, Nat.le_of_ble_eq_true rfl⟩ 0 rfl rfl  rfl rfl (Nat.le_of_ble_eq_true rfl) dX2_wipeStale_72 ⟨Nat.le_of_ble_eq_true rfl, Nat.le_of_ble_eq_true rfl⟩ rfl (fun v hv => ?_)
      obtain rfl := hv
      refine g_st (st' := [_, _, _, _]) rfl ?_
      rw [fW_6]
      refine g_ldc2 X dX2_wipeStale_75 (List.mem_of_getElem? (i := 3) rfl) rfl ?_
      refine g_lxor X dX2_wipeStale_78 rfl ?_
      refine g_land X dX2_wipeStale_79 rfl ?_
      refine g_topl (msk_dif (by omega)) ?_
      refine g_callVRsq (n := 1) (As := [_]) (rest := [_]) X (c_X2_notesLedBy l D _ _ _ _ mk n b hW hNR (mskN (fun k => gd f0 k && !gd f k) mk) (msk64 (by omega))) gX2_wipeStale_X2_notesLedBy rfl (by decide +kernel) ⟨Nat.le_of_ble_eq_true rfl, Nat.le_of_ble_eq_true rfl⟩ 0 rfl rfl  rfl rfl (Nat.le_of_ble_eq_true rfl) dX2_wipeStale_80 ⟨Nat.le_of_ble_eq_true rfl, Nat.le_of_ble_eq_true rfl⟩ rfl (fun v hv => ?_)
      obtain rfl := hv
      refine g_st (st' := [_, _]) rfl ?_
      refine g_callVWsq (n := 1) (As := [_]) (rest := []) X hAg rfl (c_X0_wipeThese l D _ _ _ _ n hn8 h8 hNR (nlP f (mskN (fun k => gd f0 k && !gd f k) mk))) gX2_wipeStale_X0_wipeThese rfl (by decide +kernel) ⟨Nat.le_of_ble_eq_true rfl, Nat.le_of_ble_eq_true rfl⟩ 11 rfl rfl  rfl rfl (Nat.le_of_ble_eq_true rfl) dX2_wipeStale_83 ⟨Nat.le_of_ble_eq_true rfl, Nat.le_of_ble_eq_true rfl⟩ rfl (fun v w hv => ?_)
      obtain ⟨rfl, nb, rfl, hN2⟩ := hv
      refine ⟨rfl, ?_⟩
      refine g_st (st' := [_]) rfl ?_
      refine g_retW X hr (by first | rfl | exact b2i_nar _) dX2_wipeStale_86 hAe ?_
      exact hPost_wk hn8 h8 (fun k hk => goM_2 ne0 ne1 (hno k hk) hdo h40) hN2
