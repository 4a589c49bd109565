set_option maxHeartbeats 4000000 in
set_option maxRecDepth 100000 in
theorem c_X2_enter (l : Launch) (D : DT) (a : Nat → Nat) (f : Nat → Int32) (na : Nat → Nat → Int32) (w : Nat → Int32) (mk n b : Nat) (hW : WF f mk n b) (hNR : NR f na n) (gv : Int32) : MW l yX2_enter wsX2_enter 3 67 0 0 D [.ref (a 0), .int gv] (wHW D a f na w) (enPost D a f gv w) := by
  obtain ⟨hmk, h40, hn8, hb0, hb1, hb8, hnb, hst, hno, how, hdo, hs1, hs2, hs3, hZF⟩ := id hW
  have h8 : n ≤ 8 := by omega
  obtain ⟨eN1, eN2, eN3⟩ := hW.N
  refine MW.of (cc := cX2_enter) (maxL := 2) (ret := none) (lv := [(0, .ref (a 0)), (1, .int gv)]) (by decide +kernel) rfl (Nat.le_of_ble_eq_true rfl) rfl ?_
  intro p e s m below meth c A hAe hAg X hr hmn
  have hinX20 : ∀ w ∈ wsX20, w ∈ wsX2_enter := fun w h => List.mem_cons_of_mem _ (List.mem_append_left _ (List.mem_append_right _ h))
  have hinX00 : ∀ w ∈ wsX00, w ∈ wsX2_enter := fun w h => List.mem_cons_of_mem _ (List.mem_append_right _ h)
  have hl65 := List.mem_of_getElem? (l := wsX2_enter) (i := 1) rfl
  have hl26 := List.mem_of_getElem? (l := wsX2_enter) (i := 2) rfl
  have hl42 := List.mem_of_getElem? (l := wsX2_enter) (i := 3) rfl
  refine g_aload_n X dX2_enter_0 rfl 0 rfl rfl ?_
  refine gH_get_House_inside X dX2_enter_1 hinX20 hl65 rfl ?_
  refine g_iload_n X dX2_enter_4 rfl 1 rfl rfl ?_
  refine g_icmp_eq X dX2_enter_5 32 (by decide) rfl (fun h5 => ?_) (fun h5 => ?_)
  · refine g_aload_n X dX2_enter_32 rfl 0 rfl rfl ?_
    refine g_iload_n X dX2_enter_33 rfl 1 rfl rfl ?_
    refine gH_put_House_inside X rfl dX2_enter_34 hinX20 hl65 rfl ?_
    refine g_vretW X hr dX2_enter_37 hAe ?_
    first
    | exact enPost_wk hn8 h8 h5 h14
    | exact enPost_up hn8 h8 hNR (en_s h5)
    | exact enPost_up hn8 h8 hNR (en_n h5 h14)
  · refine g_aload_n X dX2_enter_8 rfl 0 rfl rfl ?_
    refine gH_get_House_settings X dX2_enter_9 hinX20 hl26 rfl ?_
    refine g_iconst (v := (1 : Int32)) X dX2_enter_12 (by decide) rfl ?_
    refine gS_ld_settings X dX2_enter_13 (k := 1) rfl (by decide) rfl ?_
    refine g_if_ne X dX2_enter_14 32 (by decide) rfl (fun h14 => ?_) (fun h14 => ?_)
    · refine g_aload_n X dX2_enter_32 rfl 0 rfl rfl ?_
      refine g_iload_n X dX2_enter_33 rfl 1 rfl rfl ?_
      refine gH_put_House_inside X rfl dX2_enter_34 hinX20 hl65 rfl ?_
      refine g_vretW X hr dX2_enter_37 hAe ?_
      first
      | exact enPost_wk hn8 h8 h5 h14
      | exact enPost_up hn8 h8 hNR (en_s h5)
      | exact enPost_up hn8 h8 hNR (en_n h5 h14)
    · refine g_aload_n X dX2_enter_17 rfl 0 rfl rfl ?_
      refine gH_get_House_board X dX2_enter_18 hinX20 hl42 rfl ?_
      refine g_aload_n X dX2_enter_21 rfl 0 rfl rfl ?_
      refine gH_get_House_board X dX2_enter_22 hinX20 hl42 rfl ?_
      refine g_callVRsq (n := 0) (As := []) (rest := [_]) X (c_X0_allNotes l D _ _ _ _ n hn8 h8) gX2_enter_X0_allNotes rfl (by decide +kernel) ⟨Nat.le_of_ble_eq_true rfl, Nat.le_of_ble_eq_true rfl⟩ 11 rfl rfl  rfl rfl (Nat.le_of_ble_eq_true rfl) dX2_enter_25 ⟨Nat.le_of_ble_eq_true rfl, Nat.le_of_ble_eq_true rfl⟩ rfl (fun v hv => ?_)
      obtain rfl := hv
      refine g_st (st' := [_, _]) rfl ?_
      refine g_callVWsq (n := 1) (As := [_]) (rest := []) X hAg rfl (c_X0_wipeThese l D _ _ _ _ n hn8 h8 hNR (fun _ => true)) gX2_enter_X0_wipeThese rfl (by decide +kernel) ⟨Nat.le_of_ble_eq_true rfl, Nat.le_of_ble_eq_true rfl⟩ 11 rfl rfl  rfl rfl (Nat.le_of_ble_eq_true rfl) dX2_enter_28 ⟨Nat.le_of_ble_eq_true rfl, Nat.le_of_ble_eq_true rfl⟩ rfl (fun v w hv => ?_)
      obtain ⟨rfl, nb, rfl, hN2⟩ := hv
      refine ⟨rfl, ?_⟩
      refine g_st (st' := [_]) rfl ?_
      refine g_pop X dX2_enter_31 rfl rfl ?_
      refine g_aload_n X dX2_enter_32 rfl 0 rfl rfl ?_
      refine g_iload_n X dX2_enter_33 rfl 1 rfl rfl ?_
      refine gH_put_House_inside X rfl dX2_enter_34 hinX20 hl65 rfl ?_
      refine g_vretW X hr dX2_enter_37 hAe ?_
      first
      | exact enPost_wk hn8 h8 h5 h14
      | exact enPost_up hn8 h8 hNR (en_s h5)
      | exact enPost_up hn8 h8 hNR (en_n h5 h14)

set_option maxHeartbeats 4000000 in
set_option maxRecDepth 100000 in
theorem c_X2_useNote (l : Launch) (D : DT) (a : Nat → Nat) (f : Nat → Int32) (na : Nat → Nat → Int32) (w : Nat → Int32) (mk n b : Nat) (hW : WF f mk n b) (hNR : NR f na n) (q : Nat) (hq : q < n) : MW l yX2_useNote wsX2_useNote 3 70 0 0 D [.ref (a 0), .int (nI q)] (wHW D a f na w) (fun v w2 => v = none ∧ ∃ nb : Nat → Nat → Int32, w2 = (wHW D a (seeF f n q) nb w) ∧ NR (seeF f n q) nb n) := by
  obtain ⟨hmk, h40, hn8, hb0, hb1, hb8, hnb, hst, hno, how, hdo, hs1, hs2, hs3, hZF⟩ := id hW
  have h8 : n ≤ 8 := by omega
  obtain ⟨eN1, eN2, eN3⟩ := hW.N
  refine MW.of (cc := cX2_useNote) (maxL := 2) (ret := none) (lv := [(0, .ref (a 0)), (1, .int (nI q))]) (by decide +kernel) rfl (Nat.le_of_ble_eq_true rfl) rfl ?_
  intro p e s m below meth c A hAe hAg X hr hmn
  have hinX20 : ∀ w ∈ wsX20, w ∈ wsX2_useNote := fun w h => List.mem_cons_of_mem _ (List.mem_append_left _ (List.mem_append_right _ h))
  have hinX00 : ∀ w ∈ wsX00, w ∈ wsX2_useNote := fun w h => List.mem_cons_of_mem _ (List.mem_append_right _ h)
  have hl72 := List.mem_of_getElem? (l := wsX2_useNote) (i := 1) rfl
  have hl75 := List.mem_of_getElem? (l := wsX2_useNote) (i := 2) rfl
  have hl29 := List.mem_of_getElem? (l := wsX2_useNote) (i := 3) rfl
  have hl26 := List.mem_of_getElem? (l := wsX2_useNote) (i := 4) rfl
  have hl42 := List.mem_of_getElem? (l := wsX2_useNote) (i := 5) rfl
  refine g_aload_n X dX2_useNote_0 rfl 0 rfl rfl ?_
  refine g_dup X dX2_useNote_1 rfl rfl ?_
  refine gH_get_House_helped X dX2_useNote_2 hinX20 hl72 rfl ?_
  refine g_iconst (v := (1 : Int32)) X dX2_useNote_5 (by decide) rfl ?_
  refine g_iadd X dX2_useNote_6 rfl ?_
  refine gH_put_House_helped X rfl dX2_useNote_7 hinX20 hl72 rfl ?_
  refine g_aload_n X dX2_useNote_10 rfl 0 rfl rfl ?_
  refine g_dup X dX2_useNote_11 rfl rfl ?_
  refine gH_get_House_steps X dX2_useNote_12 hinX20 hl75 rfl ?_
  refine g_iconst (v := (1 : Int32)) X dX2_useNote_15 (by decide) rfl ?_
  refine g_iadd X dX2_useNote_16 rfl ?_
  refine gH_put_House_steps X rfl dX2_useNote_17 hinX20 hl75 rfl ?_
  refine g_aload_n X dX2_useNote_20 rfl 0 rfl rfl ?_
  refine gH_get_House_endings X dX2_useNote_21 hinX20 hl29 rfl ?_
  refine g_iconst (v := (0 : Int32)) X dX2_useNote_24 (by decide) rfl ?_
  refine g_dup2 X dX2_useNote_25 rfl rfl rfl ?_
  refine gS_ld_endings X dX2_useNote_26 (k := 0) rfl (by decide) rfl ?_
  refine g_iconst (v := (1 : Int32)) X dX2_useNote_27 (by decide) rfl ?_
  refine g_iadd X dX2_useNote_28 rfl ?_
  refine gS_st_endings X rfl dX2_useNote_29 (k := 0) rfl (by decide) rfl ?_
  refine g_ws (wHW_f (show _ = seF f from rfl)) ?_
  refine g_aload_n X dX2_useNote_30 rfl 0 rfl rfl ?_
  refine gH_get_House_settings X dX2_useNote_31 hinX20 hl26 rfl ?_
  refine g_iconst (v := (3 : Int32)) X dX2_useNote_34 (by decide) rfl ?_
  refine gS_ld_settings X dX2_useNote_35 (k := 3) rfl (by decide) rfl ?_
  refine g_topi (show _ = f 3 from rfl) ?_
  refine g_iconst (v := (1 : Int32)) X dX2_useNote_36 (by decide) rfl ?_
  refine g_icmp_ne X dX2_useNote_37 48 (by decide) rfl (fun h37 => ?_) (fun h37 => ?_)
  · refine g_vretW X hr dX2_useNote_48 hAe ?_
    first
    | exact ⟨rfl, nb, wHW_f (see_eq h37), by rw [← see_eq h37]; exact hN2⟩
    | exact ⟨rfl, na, wHW_f (show seF f = seeF f n q from by unfold seeF; rw [if_neg h37]), by rw [show seeF f n q = seF f from by unfold seeF; rw [if_neg h37]]; exact NR_c (f := f) (fun m h1 h2 => by unfold seF; rw [up_n _ _ (by omega), up_n _ _ (by omega), up_n _ _ (by omega)]) (by omega) hNR⟩
  · refine g_aload_n X dX2_useNote_40 rfl 0 rfl rfl ?_
    refine gH_get_House_board X dX2_useNote_41 hinX20 hl42 rfl ?_
    refine g_iload_n X dX2_useNote_44 rfl 1 rfl rfl ?_
    refine g_callVWsq (n := 1) (As := [_]) (rest := []) X hAg rfl (c_X0_moveToEnd l D _ _ _ _ n (show seF f 90 = nI n from hn8) h8 (NR_c (f := f) (fun m h1 h2 => by unfold seF; rw [up_n _ _ (by omega), up_n _ _ (by omega), up_n _ _ (by omega)]) (by omega) hNR) q hq) gX2_useNote_X0_moveToEnd rfl (by decide +kernel) ⟨Nat.le_of_ble_eq_true rfl, Nat.le_of_ble_eq_true rfl⟩ 11 rfl rfl  rfl rfl (Nat.le_of_ble_eq_true rfl) dX2_useNote_45 ⟨Nat.le_of_ble_eq_true rfl, Nat.le_of_ble_eq_true rfl⟩ rfl (fun v w hv => ?_)
    obtain ⟨rfl, nb, rfl, hN2⟩ := hv
    refine ⟨rfl, ?_⟩
    refine g_st (st' := []) rfl ?_
    refine g_vretW X hr dX2_useNote_48 hAe ?_
    first
    | exact ⟨rfl, nb, wHW_f (see_eq h37), by rw [← see_eq h37]; exact hN2⟩
    | exact ⟨rfl, na, wHW_f (show seF f = seeF f n q from by unfold seeF; rw [if_neg h37]), by rw [show seeF f n q = seF f from by unfold seeF; rw [if_neg h37]]; exact NR_c (f := f) (fun m h1 h2 => by unfold seF; rw [up_n _ _ (by omega), up_n _ _ (by omega), up_n _ _ (by omega)]) (by omega) hNR⟩

set_option maxHeartbeats 4000000 in
set_option maxRecDepth 100000 in
theorem c_X2_addNote (l : Launch) (D : DT) (a : Nat → Nat) (f : Nat → Int32) (na : Nat → Nat → Int32) (w : Nat → Int32) (mk n b : Nat) (hW : WF f mk n b) (hNR : NR f na n) (g d : Nat) (hg : g < 6) (hd : d < 10) (nd : Int32) (hled : ¬ ledM f g d < 0) : MW l yX2_addNote wsX2_addNote 3 66 0 0 D [.ref (a 0), .int (nI g), .int (nI d), .int nd] (wHW D a f na w) (fun v w2 => v = none ∧ ∃ nb : Nat → Nat → Int32, w2 = (wHW D a (drI (n + 1) (pnF f n (nI g) (nI d) nd (ofM f (ledM f g d).toNatClampNeg 0)) (n + 1) b) nb w) ∧ NR (drI (n + 1) (pnF f n (nI g) (nI d) nd (ofM f (ledM f g d).toNatClampNeg 0)) (n + 1) b) nb (min (n + 1) b)) := by
  obtain ⟨hmk, h40, hn8, hb0, hb1, hb8, hnb, hst, hno, how, hdo, hs1, hs2, hs3, hZF⟩ := id hW
  have h8 : n ≤ 8 := by omega
  obtain ⟨eN1, eN2, eN3⟩ := hW.N
  obtain ⟨sq, hsq, esq⟩ : ∃ s : Nat, s < mk ∧ ledM f g d = nI s := by
    rcases hdo (10 * g + d) (by omega) with z | z
    · exact absurd (by rw [show ledM f g d = -6 from z]; exact neg6) hled
    · exact z
  obtain ⟨k1, k2, k3, k4⟩ := drI_o (b - 1) n f n (Nat.le_refl _) (by omega) hn8
  refine MW.of (cc := cX2_addNote) (maxL := 5) (ret := none) (lv := [(0, .ref (a 0)), (1, .int (nI g)), (2, .int (nI d)), (3, .int nd)]) (by decide +kernel) rfl (Nat.le_of_ble_eq_true rfl) rfl ?_
  intro p e s m below meth c A hAe hAg X hr hmn
  have hinX20 : ∀ w ∈ wsX20, w ∈ wsX2_addNote := fun w h => List.mem_cons_of_mem _ (List.mem_append_left _ (List.mem_append_left _ (List.mem_append_right _ h)))
  have hinX40 : ∀ w ∈ wsX40, w ∈ wsX2_addNote := fun w h => List.mem_cons_of_mem _ (List.mem_append_left _ (List.mem_append_right _ h))
  have hinX00 : ∀ w ∈ wsX00, w ∈ wsX2_addNote := fun w h => List.mem_cons_of_mem _ (List.mem_append_right _ h)
  have hl35 := List.mem_of_getElem? (l := wsX2_addNote) (i := 1) rfl
  have hl42 := List.mem_of_getElem? (l := wsX2_addNote) (i := 2) rfl
  have hl26 := List.mem_of_getElem? (l := wsX2_addNote) (i := 3) rfl
  have hl127 := List.mem_of_getElem? (l := wsX2_addNote) (i := 4) rfl
  refine g_aload_n X dX2_addNote_0 rfl 0 rfl rfl ?_
  refine g_iload_n X dX2_addNote_1 rfl 1 rfl rfl ?_
  refine g_iload_n X dX2_addNote_2 rfl 2 rfl rfl ?_
  refine g_callVRsq (n := 2) (As := [_, _]) (rest := []) X (c_X2_ledBy l D _ _ _ _ g d hg hd) gX2_addNote_X2_ledBy rfl (by decide +kernel) ⟨Nat.le_of_ble_eq_true rfl, Nat.le_of_ble_eq_true rfl⟩ 0 rfl rfl  rfl rfl (Nat.le_of_ble_eq_true rfl) dX2_addNote_3 ⟨Nat.le_of_ble_eq_true rfl, Nat.le_of_ble_eq_true rfl⟩ rfl (fun v hv => ?_)
  obtain rfl := hv
  refine g_st (st' := [_]) rfl ?_
  refine g_istore X [(4, _), (0, _), (1, _), (2, _), (3, _)] dX2_addNote_6 (by decide) rfl rfl ?_
  refine g_aload_n X dX2_addNote_8 rfl 1 rfl rfl ?_
  refine gH_get_House_stamps X dX2_addNote_9 hinX20 hl35 rfl ?_
  refine g_iload X dX2_addNote_12 0 rfl rfl ?_
  refine g_callVRsq (n := 1) (As := [_]) (rest := []) X (c_X4_has l D _ _ _ _ mk hmk h40 _) gX2_addNote_X4_has rfl (by decide +kernel) ⟨Nat.le_of_ble_eq_true rfl, Nat.le_of_ble_eq_true rfl⟩ 5 rfl rfl  rfl rfl (Nat.le_of_ble_eq_true rfl) dX2_addNote_14 ⟨Nat.le_of_ble_eq_true rfl, Nat.le_of_ble_eq_true rfl⟩ rfl (fun v hv => ?_)
  obtain rfl := hv
  refine g_st (st' := [_]) rfl ?_
  refine g_if_eq X dX2_addNote_17 55 (by decide) rfl (fun h17 => absurd (b2i_0 h17) (by rw [esq, rng_nI' hsq (by omega)]; decide)) (fun h17 => ?_)
  refine g_aload_n X dX2_addNote_20 rfl 1 rfl rfl ?_
  refine gH_get_House_board X dX2_addNote_21 hinX20 hl42 rfl ?_
  refine g_aload_n X dX2_addNote_24 rfl 1 rfl rfl ?_
  refine gH_get_House_settings X dX2_addNote_25 hinX20 hl26 rfl ?_
  refine g_iconst (v := (0 : Int32)) X dX2_addNote_28 (by decide) rfl ?_
  refine gS_ld_settings X dX2_addNote_29 (k := 0) rfl (by decide) rfl ?_
  refine g_topi (show _ = nI b from hb0) ?_
  refine g_iconst (v := (1 : Int32)) X dX2_addNote_30 (by decide) rfl ?_
  refine g_isub X dX2_addNote_31 rfl ?_
  refine g_topi (pk_sub (a := b) (b := 1) (by omega)) ?_
  refine g_callVWsq (n := 1) (As := [_]) (rest := []) X hAg rfl (c_X0_dropDownTo l D _ _ _ _ n hn8 h8 hNR (b - 1) (by omega)) gX2_addNote_X0_dropDownTo rfl (by decide +kernel) ⟨Nat.le_of_ble_eq_true rfl, Nat.le_of_ble_eq_true rfl⟩ 11 rfl rfl  rfl rfl (Nat.le_of_ble_eq_true rfl) dX2_addNote_32 ⟨Nat.le_of_ble_eq_true rfl, Nat.le_of_ble_eq_true rfl⟩ rfl (fun v w hv => ?_)
  obtain ⟨rfl, nb, rfl, hN2⟩ := hv
  refine ⟨rfl, ?_⟩
  refine g_st (st' := []) rfl ?_
  refine g_aload_n X dX2_addNote_35 rfl 1 rfl rfl ?_
  refine gH_get_House_board X dX2_addNote_36 hinX20 hl42 rfl ?_
  refine g_iload_n X dX2_addNote_39 rfl 2 rfl rfl ?_
  refine g_iload_n X dX2_addNote_40 rfl 3 rfl rfl ?_
  refine g_iload_n X dX2_addNote_41 rfl 4 rfl rfl ?_
  refine g_aload_n X dX2_addNote_42 rfl 1 rfl rfl ?_
  refine gH_get_House_stamps X dX2_addNote_43 hinX20 hl35 rfl ?_
  refine gH_get_Stamps_page X dX2_addNote_46 hinX40 hl127 rfl ?_
  refine g_iload X dX2_addNote_49 0 rfl rfl ?_
  refine g_topi esq ?_
  refine gS_ld_page X dX2_addNote_51 (by first | rfl | assumption) (by omega) rfl ?_
  refine g_topi (show _ = ofM f (ledM f g d).toNatClampNeg 0 from (k1 _ (by omega)).trans (by rw [esq, nI_clamp (by omega)]; rfl)) ?_
  refine g_callVWsq (n := 4) (As := [_, _, _, _]) (rest := []) X hAg rfl (c_X0_add l D _ _ _ _ (min n (b - 1)) k2 (by omega) hN2 (by omega) _ _ _ _) gX2_addNote_X0_add rfl (by decide +kernel) ⟨Nat.le_of_ble_eq_true rfl, Nat.le_of_ble_eq_true rfl⟩ 11 rfl rfl  rfl rfl (Nat.le_of_ble_eq_true rfl) dX2_addNote_52 ⟨Nat.le_of_ble_eq_true rfl, Nat.le_of_ble_eq_true rfl⟩ rfl (fun v w hv => ?_)
  obtain ⟨rfl, nb2, rfl, hN3⟩ := hv
  refine ⟨rfl, ?_⟩
  refine g_st (st' := []) rfl ?_
  refine g_vretW X hr dX2_addNote_55 hAe ?_
  exact ⟨rfl, nb2, wHW_c (add_w hn8 h8 hb1), add_NR hn8 h8 hb1 hN3⟩

set_option maxHeartbeats 4000000 in
set_option maxRecDepth 100000 in
theorem c_X2_visit (l : Launch) (D : DT) (a : Nat → Nat) (f : Nat → Int32) (na : Nat → Nat → Int32) (w : Nat → Int32) (mk n b : Nat) (hW : WF f mk n b) (hNR : NR f na n) (gv dr nd : Int32) : MW l yX2_visit wsX2_visit 4 97 0 0 D [.ref (a 0), .int gv, .int dr, .int nd, .ref (a 18)] (wHW D a f na w) (hPost D a (comeS f gv dr nd)) := by
  obtain ⟨hmk, h40, hn8, hb0, hb1, hb8, hnb, hst, hno, how, hdo, hs1, hs2, hs3, hZF⟩ := id hW
  have h8 : n ≤ 8 := by omega
  obtain ⟨eN1, eN2, eN3⟩ := hW.N
  refine MW.of (cc := cX2_visit) (maxL := 6) (ret := (some .int)) (lv := [(0, .ref (a 0)), (1, .int gv), (2, .int dr), (3, .int nd), (4, .ref (a 18))]) (by decide +kernel) rfl (Nat.le_of_ble_eq_true rfl) rfl ?_
  intro p e s m below meth c A hAe hAg X hr hmn
  have hinX20 : ∀ w ∈ wsX20, w ∈ wsX2_visit := fun w h => List.mem_cons_of_mem _ (List.mem_append_left _ (List.mem_append_left _ (List.mem_append_left _ (List.mem_append_right _ h))))
  have hinX50 : ∀ w ∈ wsX50, w ∈ wsX2_visit := fun w h => List.mem_cons_of_mem _ (List.mem_append_left _ (List.mem_append_left _ (List.mem_append_right _ h)))
  have hinX00 : ∀ w ∈ wsX00, w ∈ wsX2_visit := fun w h => List.mem_cons_of_mem _ (List.mem_append_left _ (List.mem_append_right _ h))
  have hinX40 : ∀ w ∈ wsX40, w ∈ wsX2_visit := fun w h => List.mem_cons_of_mem _ (List.mem_append_right _ h)
  have hl69 := List.mem_of_getElem? (l := wsX2_visit) (i := 1) rfl
  have hl42 := List.mem_of_getElem? (l := wsX2_visit) (i := 2) rfl
  have hl75 := List.mem_of_getElem? (l := wsX2_visit) (i := 3) rfl
  have hl166 := List.mem_of_getElem? (l := wsX2_visit) (i := 4) rfl
  have hl29 := List.mem_of_getElem? (l := wsX2_visit) (i := 5) rfl
  have hl167 := List.mem_of_getElem? (l := wsX2_visit) (i := 6) rfl
  refine g_iload_n X dX2_visit_0 rfl 1 rfl rfl ?_
  refine g_iload_n X dX2_visit_1 rfl 2 rfl rfl ?_
  refine g_callSNR (n := 2) (As := [_, _]) (rest := []) X (c_X6_isDoor l D _ _) gX2_visit_X6_isDoor_n134 (List.mem_of_getElem? (i := 8) rfl) (by decide +kernel) (List.mem_of_getElem? (i := 7) rfl) rfl (by decide +kernel) ⟨Nat.le_of_ble_eq_true rfl, Nat.le_of_ble_eq_true rfl⟩ [] rfl rfl rfl rfl (Nat.le_of_ble_eq_true rfl) dX2_visit_2 ⟨Nat.le_of_ble_eq_true rfl, Nat.le_of_ble_eq_true rfl⟩ rfl (fun v hv => ?_)
  obtain rfl := hv
  refine g_st (st' := [_]) rfl ?_
  refine g_if_ne X dX2_visit_5 10 (by decide) rfl (fun h5 => ?_) (fun h5 => ?_)
  · replace h5 := b2i_n0 h5
    have hC := h5
    obtain ⟨hgA, hdA⟩ := Bool.and_eq_true_iff.mp h5
    obtain ⟨g, hgg, rfl⟩ := rng_nI hgA
    obtain ⟨d, hdd, rfl⟩ := rng_nI hdA
    refine g_iload_n X dX2_visit_10 rfl 3 rfl rfl ?_
    refine g_callSNR (n := 1) (As := [_]) (rest := []) X (c_X6_isNeed l D _) gX2_visit_X6_isNeed_n146 (List.mem_of_getElem? (i := 8) rfl) (by decide +kernel) (List.mem_of_getElem? (i := 10) rfl) rfl (by decide +kernel) ⟨Nat.le_of_ble_eq_true rfl, Nat.le_of_ble_eq_true rfl⟩ [] rfl rfl rfl rfl (Nat.le_of_ble_eq_true rfl) dX2_visit_11 ⟨Nat.le_of_ble_eq_true rfl, Nat.le_of_ble_eq_true rfl⟩ rfl (fun v hv => ?_)
    obtain rfl := hv
    refine g_st (st' := [_]) rfl ?_
    refine g_if_ne X dX2_visit_14 20 (by decide) rfl (fun h14 => ?_) (fun h14 => ?_)
    · replace h14 := b2i_n0 h14
      have hND : nd = 1 ∨ nd = 2 := of_decide_eq_true h14
      refine g_aload_n X dX2_visit_20 rfl 0 rfl rfl ?_
      refine g_iload_n X dX2_visit_21 rfl 1 rfl rfl ?_
      refine g_callVWsq (n := 1) (As := [_]) (rest := []) X hAg rfl (c_X2_enter l D _ _ _ _ mk n b hW hNR (nI g)) gX2_visit_X2_enter rfl (by decide +kernel) ⟨Nat.le_of_ble_eq_true rfl, Nat.le_of_ble_eq_true rfl⟩ 0 rfl rfl  rfl rfl (Nat.le_of_ble_eq_true rfl) dX2_visit_22 ⟨Nat.le_of_ble_eq_true rfl, Nat.le_of_ble_eq_true rfl⟩ rfl (fun v w hv => ?_)
      obtain ⟨rfl, nb, n2, rfl, hN2, h902, hn28⟩ := hv
      refine ⟨rfl, ?_⟩
      refine g_st (st' := []) rfl ?_
      refine g_aload_n X dX2_visit_25 rfl 0 rfl rfl ?_
      refine g_dup X dX2_visit_26 rfl rfl ?_
      refine gH_get_House_visits X dX2_visit_27 hinX20 hl69 rfl ?_
      refine g_iconst (v := (1 : Int32)) X dX2_visit_30 (by decide) rfl ?_
      refine g_iadd X dX2_visit_31 rfl ?_
      refine gH_put_House_visits X rfl dX2_visit_32 hinX20 hl69 rfl ?_
      refine g_ws (wHW_f (en_cm f (nI g))) ?_
      obtain ⟨n3, hW3⟩ := cm_ok hW (nI g)
      obtain ⟨hmk3, -, hn3, hb03, -, -, hnb3, hst3, -, how3, hdo3, -, -, -⟩ := id hW3
      obtain ⟨eM1, eM2, eM3⟩ := hW3.N
      have h38 : n3 ≤ 8 := by omega
      have hn23 : n3 = n2 := nI_inj8 h38 hn28 (Eq.symm (by rw [← h902, ← hn3, ← en_cm f (nI g)]; exact (up_n _ _ (by omega)).symm))
      subst hn23
      have hN3 : NR (cmF f (nI g)) nb n3 := by rw [← en_cm f (nI g)]; exact NR_up hN2 (by omega) (by omega)
      refine g_aload_n X dX2_visit_35 rfl 0 rfl rfl ?_
      refine gH_get_House_board X dX2_visit_36 hinX20 hl42 rfl ?_
      refine g_iload_n X dX2_visit_39 rfl 1 rfl rfl ?_
      refine g_iload_n X dX2_visit_40 rfl 2 rfl rfl ?_
      refine g_iload_n X dX2_visit_41 rfl 3 rfl rfl ?_
      refine g_callVRsq (n := 3) (As := [_, _, _]) (rest := []) X (c_X0_find l D _ _ _ _ n3 hn3 h38 hN3 (nI g) (nI d) nd) gX2_visit_X0_find rfl (by decide +kernel) ⟨Nat.le_of_ble_eq_true rfl, Nat.le_of_ble_eq_true rfl⟩ 11 rfl rfl  rfl rfl (Nat.le_of_ble_eq_true rfl) dX2_visit_42 ⟨Nat.le_of_ble_eq_true rfl, Nat.le_of_ble_eq_true rfl⟩ rfl (fun v hv => ?_)
      obtain rfl := hv
      refine g_st (st' := [_]) rfl ?_
      refine g_istore X [(5, _), (0, _), (1, _), (2, _), (3, _), (4, _)] dX2_visit_45 (by decide) rfl rfl ?_
      refine g_aload_n X dX2_visit_47 rfl 1 rfl rfl ?_
      refine gH_get_House_board X dX2_visit_48 hinX20 hl42 rfl ?_
      refine g_iload X dX2_visit_51 0 rfl rfl ?_
      refine g_callVRsq (n := 1) (As := [_]) (rest := []) X (c_X0_has l D _ _ _ _ n3 hn3 h38 _) gX2_visit_X0_has rfl (by decide +kernel) ⟨Nat.le_of_ble_eq_true rfl, Nat.le_of_ble_eq_true rfl⟩ 11 rfl rfl  rfl rfl (Nat.le_of_ble_eq_true rfl) dX2_visit_53 ⟨Nat.le_of_ble_eq_true rfl, Nat.le_of_ble_eq_true rfl⟩ rfl (fun v hv => ?_)
      obtain rfl := hv
      refine g_st (st' := [_]) rfl ?_
      refine g_if_eq X dX2_visit_56 67 (by decide) rfl (fun h56 => ?_) (fun h56 => ?_)
      · replace h56 := b2i_0 h56
        have hFn := fnd_n h38 h56
        obtain ⟨⟨rr, hrr, err⟩, hws⟩ := wlk_le (cmF f (nI g)) g d nd
        refine g_aload X dX2_visit_67 5 rfl rfl ?_
        refine g_aload_n X dX2_visit_69 rfl 1 rfl rfl ?_
        refine g_iload_n X dX2_visit_70 rfl 2 rfl rfl ?_
        refine g_iload_n X dX2_visit_71 rfl 3 rfl rfl ?_
        refine g_iload_n X dX2_visit_72 rfl 4 rfl rfl ?_
        refine g_callVWsq (n := 4) (As := [_, _, _, _]) (rest := []) X hAg rfl (c_X5_go l D _ _ _ _ mk hmk3 h40 hst3 how3 hdo3 g d hgg hdd nd) gX2_visit_X5_go rfl (by decide +kernel) ⟨Nat.le_of_ble_eq_true rfl, Nat.le_of_ble_eq_true rfl⟩ 16 rfl rfl  rfl rfl (Nat.le_of_ble_eq_true rfl) dX2_visit_73 ⟨Nat.le_of_ble_eq_true rfl, Nat.le_of_ble_eq_true rfl⟩ rfl (fun v w hv => ?_)
        obtain ⟨rfl, w1, rfl, hw0, hw1⟩ := hv
        refine ⟨rfl, ?_⟩
        refine g_st (st' := []) rfl ?_
        refine g_aload_n X dX2_visit_76 rfl 1 rfl rfl ?_
        refine g_dup X dX2_visit_77 rfl rfl ?_
        refine gH_get_House_steps X dX2_visit_78 hinX20 hl75 rfl ?_
        refine g_aload X dX2_visit_81 5 rfl rfl ?_
        refine gH_get_Walk_steps X dX2_visit_83 hinX50 hl166 rfl ?_
        refine g_topi hw1 ?_
        refine g_iadd X dX2_visit_86 rfl ?_
        refine gH_put_House_steps X rfl dX2_visit_87 hinX20 hl75 rfl ?_
        refine g_aload_n X dX2_visit_90 rfl 1 rfl rfl ?_
        refine gH_get_House_endings X dX2_visit_91 hinX20 hl29 rfl ?_
        refine g_aload X dX2_visit_94 5 rfl rfl ?_
        refine gH_get_Walk_reason X dX2_visit_96 hinX50 hl167 rfl ?_
        refine g_topi (hw0.trans err) ?_
        refine g_dup2 X dX2_visit_99 rfl rfl rfl ?_
        refine gS_ld_endings X dX2_visit_100 (by first | rfl | assumption) (by omega) rfl ?_
        refine g_iconst (v := (1 : Int32)) X dX2_visit_101 (by decide) rfl ?_
        refine g_iadd X dX2_visit_102 rfl ?_
        refine gS_st_endings X rfl dX2_visit_103 (by first | rfl | assumption) (by omega) rfl ?_
        refine g_ws (wHW_f (show _ = (wrF (cmF f (nI g)) (wlk (cmF f (nI g)) g d nd).1 (wlk (cmF f (nI g)) g d nd).2) from by unfold wrF; rw [err, nI_clamp (by omega), up_n _ _ (by omega : 83 + rr ≠ 80)])) ?_
        have hN4 : NR (wrF (cmF f (nI g)) (wlk (cmF f (nI g)) g d nd).1 (wlk (cmF f (nI g)) g d nd).2) nb n3 := NR_c (f := (cmF f (nI g))) (fun m h1 h2 => (wr_e err hrr (by omega)).symm) (by omega) hN3
        have hled4 : ledM (wrF (cmF f (nI g)) (wlk (cmF f (nI g)) g d nd).1 (wlk (cmF f (nI g)) g d nd).2) g d = ledM (cmF f (nI g)) g d := wr_e err hrr (by omega)
        have hW4 : WF (wrF (cmF f (nI g)) (wlk (cmF f (nI g)) g d nd).1 (wlk (cmF f (nI g)) g d nd).2) mk n3 b := by
          unfold wrF
          rw [err, nI_clamp (by omega)]
          exact ((hW3.w0.cnt _ (by omega) (by omega)).cnt _ (by omega) (by omega)).w hnb3
        refine g_aload X dX2_visit_104 5 rfl rfl ?_
        refine gH_get_Walk_reason X dX2_visit_106 hinX50 hl167 rfl ?_
        refine g_topi hw0 ?_
        refine g_if_ne X dX2_visit_109 119 (by decide) rfl (fun h109 => ?_) (fun h109 => ?_)
        · refine g_aload X dX2_visit_119 5 rfl rfl ?_
          refine gH_get_Walk_reason X dX2_visit_121 hinX50 hl167 rfl ?_
          refine g_topi hw0 ?_
          refine g_retW X hr (by first | rfl | exact b2i_nar _) dX2_visit_124 hAe ?_
          first
          | exact hPost_of (by unfold comeS; rw [if_pos hC, if_pos hND, nI_clamp (by omega), nI_clamp (by omega)]; unfold comeW; rw [eM2, if_neg hFn, if_neg h109]) hN4 ((wr_e err hrr (by omega)).trans hn3)
          | exact hPost_of (by unfold comeS; rw [if_pos hC, if_pos hND, nI_clamp (by omega), nI_clamp (by omega)]; unfold comeW; rw [eM2, if_neg hFn, if_pos h109, eM3, hled4, show ofM (wrF (cmF f (nI g)) (wlk (cmF f (nI g)) g d nd).1 (wlk (cmF f (nI g)) g d nd).2) (ledM (cmF f (nI g)) g d).toNatClampNeg 0 = ofM (cmF f (nI g)) (ledM (cmF f (nI g)) g d).toNatClampNeg 0 from wr_e err hrr (by omega)]) hN5 (add_90 h38)
        · refine g_aload_n X dX2_visit_112 rfl 1 rfl rfl ?_
          refine g_iload_n X dX2_visit_113 rfl 2 rfl rfl ?_
          refine g_iload_n X dX2_visit_114 rfl 3 rfl rfl ?_
          refine g_iload_n X dX2_visit_115 rfl 4 rfl rfl ?_
          refine g_callVWsq (n := 3) (As := [_, _, _]) (rest := []) X hAg rfl (c_X2_addNote l D _ _ _ _ mk n3 b hW4 hN4 g d hgg hdd nd (by rw [hled4]; exact wlk_0 h109)) gX2_visit_X2_addNote rfl (by decide +kernel) ⟨Nat.le_of_ble_eq_true rfl, Nat.le_of_ble_eq_true rfl⟩ 0 rfl rfl  rfl rfl (Nat.le_of_ble_eq_true rfl) dX2_visit_116 ⟨Nat.le_of_ble_eq_true rfl, Nat.le_of_ble_eq_true rfl⟩ rfl (fun v w hv => ?_)
          obtain ⟨rfl, nb5, rfl, hN5⟩ := hv
          refine ⟨rfl, ?_⟩
          refine g_st (st' := []) rfl ?_
          refine g_aload X dX2_visit_119 5 rfl rfl ?_
          refine gH_get_Walk_reason X dX2_visit_121 hinX50 hl167 rfl ?_
          refine g_topi hw0 ?_
          refine g_retW X hr (by first | rfl | exact b2i_nar _) dX2_visit_124 hAe ?_
          first
          | exact hPost_of (by unfold comeS; rw [if_pos hC, if_pos hND, nI_clamp (by omega), nI_clamp (by omega)]; unfold comeW; rw [eM2, if_neg hFn, if_neg h109]) hN4 ((wr_e err hrr (by omega)).trans hn3)
          | exact hPost_of (by unfold comeS; rw [if_pos hC, if_pos hND, nI_clamp (by omega), nI_clamp (by omega)]; unfold comeW; rw [eM2, if_neg hFn, if_pos h109, eM3, hled4, show ofM (wrF (cmF f (nI g)) (wlk (cmF f (nI g)) g d nd).1 (wlk (cmF f (nI g)) g d nd).2) (ledM (cmF f (nI g)) g d).toNatClampNeg 0 = ofM (cmF f (nI g)) (ledM (cmF f (nI g)) g d).toNatClampNeg 0 from wr_e err hrr (by omega)]) hN5 (add_90 h38)
      · replace h56 := b2i_n0 h56
        obtain ⟨k3, hk3, ek3⟩ := rng_nI h56
        refine g_aload_n X dX2_visit_59 rfl 1 rfl rfl ?_
        refine g_iload X dX2_visit_60 0 rfl rfl ?_
        refine g_topi ek3 ?_
        refine g_callVWsq (n := 1) (As := [_]) (rest := []) X hAg rfl (c_X2_useNote l D _ _ _ _ mk n3 b hW3 hN3 k3 hk3) gX2_visit_X2_useNote rfl (by decide +kernel) ⟨Nat.le_of_ble_eq_true rfl, Nat.le_of_ble_eq_true rfl⟩ 0 rfl rfl  rfl rfl (Nat.le_of_ble_eq_true rfl) dX2_visit_62 ⟨Nat.le_of_ble_eq_true rfl, Nat.le_of_ble_eq_true rfl⟩ rfl (fun v w hv => ?_)
        obtain ⟨rfl, nb4, rfl, hN4⟩ := hv
        refine ⟨rfl, ?_⟩
        refine g_st (st' := []) rfl ?_
        refine g_iconst (v := (0 : Int32)) X dX2_visit_65 (by decide) rfl ?_
        refine g_retW X hr (by first | rfl | exact b2i_nar _) dX2_visit_66 hAe ?_
        exact hPost_of (by unfold comeS; rw [if_pos hC, if_pos hND, nI_clamp (by omega), nI_clamp (by omega)]; unfold comeW; rw [eM2, if_pos (by rw [ek3]; exact nI_ge0 (by omega)), ek3, nI_clamp (by omega)]) hN4 (see_90 hn3 hk3)
    · replace h14 := b2i_0 h14
      refine g_bipush (v := ((-2) : Int32)) X dX2_visit_17 (by decide) rfl ?_
      refine g_retW X hr (by first | rfl | exact b2i_nar _) dX2_visit_19 hAe ?_
      exact hPost_of (by unfold comeS; rw [if_pos hC, if_neg (of_decide_eq_false h14)]) hNR hn8
  · replace h5 := b2i_0 h5
    refine g_iconst (v := ((-1) : Int32)) X dX2_visit_8 (by decide) rfl ?_
    refine g_retW X hr (by first | rfl | exact b2i_nar _) dX2_visit_9 hAe ?_
    exact hPost_of (by unfold comeS; rw [if_neg (by rw [h5]; exact Bool.false_ne_true)]) hNR hn8
