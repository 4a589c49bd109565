set_option maxHeartbeats 4000000 in
set_option maxRecDepth 100000 in
theorem c_X2_changeOwner (l : Launch) (D : DT) (a : Nat → Nat) (f : Nat → Int32) (na : Nat → Nat → Int32) (w : Nat → Int32) (mk n b : Nat) (hW : WF f mk n b) (hNR : NR f na n) (x gu : Int32) : MW l yX2_changeOwner wsX2_changeOwner 4 95 0 0 D [.ref (a 0), .int x, .int gu] (wHW D a f na w) (hPost D a (ownS f x gu)) := by
  obtain ⟨hmk, h40, hn8, hb0, hb1, hb8, hnb, hst, hno, how, hdo, hs1, hs2, hs3, hZF⟩ := id hW
  have h8 : n ≤ 8 := by omega
  obtain ⟨eN1, eN2, eN3⟩ := hW.N
  refine MW.of (cc := cX2_changeOwner) (maxL := 5) (ret := (some .int)) (lv := [(0, .ref (a 0)), (1, .int x), (2, .int gu)]) (by decide +kernel) rfl (Nat.le_of_ble_eq_true rfl) rfl ?_
  intro p e s m below meth c A hAe hAg X hr hmn
  have hinX20 : ∀ w ∈ wsX20, w ∈ wsX2_changeOwner := fun w h => List.mem_cons_of_mem _ (List.mem_append_left _ (List.mem_append_left _ (List.mem_append_right _ h)))
  have hinX40 : ∀ w ∈ wsX40, w ∈ wsX2_changeOwner := fun w h => List.mem_cons_of_mem _ (List.mem_append_left _ (List.mem_append_right _ h))
  have hinX00 : ∀ w ∈ wsX00, w ∈ wsX2_changeOwner := fun w h => List.mem_cons_of_mem _ (List.mem_append_right _ h)
  have hl9 := List.mem_of_getElem? (l := wsX2_changeOwner) (i := 1) rfl
  refine g_iload_n X dX2_changeOwner_0 rfl 1 rfl rfl ?_
  refine g_callSNR (n := 1) (As := [_]) (rest := []) X (c_X6_isPage l D _) gX2_changeOwner_X6_isPage_n88 (List.mem_of_getElem? (i := 3) rfl) (by decide +kernel) (List.mem_of_getElem? (i := 2) rfl) rfl (by decide +kernel) ⟨Nat.le_of_ble_eq_true rfl, Nat.le_of_ble_eq_true rfl⟩ [] rfl rfl rfl rfl (Nat.le_of_ble_eq_true rfl) dX2_changeOwner_1 ⟨Nat.le_of_ble_eq_true rfl, Nat.le_of_ble_eq_true rfl⟩ rfl (fun v hv => ?_)
  obtain rfl := hv
  refine g_st (st' := [_]) rfl ?_
  refine g_if_eq X dX2_changeOwner_4 20 (by decide) rfl (fun h4 => ?_) (fun h4 => ?_)
  · replace h4 := b2i_0 h4
    refine g_iconst (v := ((-1) : Int32)) X dX2_changeOwner_20 (by decide) rfl ?_
    refine g_retW X hr (by first | rfl | exact b2i_nar _) dX2_changeOwner_21 hAe ?_
    exact hPost_of (by unfold ownS; rw [if_neg (by simp [*])]) hNR hn8
  · replace h4 := b2i_n0 h4
    obtain ⟨q, hq, rfl⟩ := rng_nI h4
    refine g_iload_n X dX2_changeOwner_7 rfl 2 rfl rfl ?_
    refine g_bipush (v := ((-6) : Int32)) X dX2_changeOwner_8 (by decide) rfl ?_
    refine g_icmp_eq X dX2_changeOwner_10 22 (by decide) rfl (fun h10 => ?_) (fun h10 => ?_)
    · have hgu : (decide (gu = -6) || rng 6 gu) = true := by simp [*]
      have hgu2 : gu = -6 ∨ ∃ g : Nat, g < 6 ∧ gu = nI g := by first | exact Or.inl h10 | exact Or.inr (rng_nI h17)
      have hC : (rng 12 (nI q) && (decide (gu = -6) || rng 6 gu)) = true := by rw [rng_nI' hq (by omega), hgu]; rfl
      refine g_aload_n X dX2_changeOwner_22 rfl 0 rfl rfl ?_
      refine gH_get_House_owners X dX2_changeOwner_23 hinX20 hl9 rfl ?_
      refine g_iload_n X dX2_changeOwner_26 rfl 1 rfl rfl ?_
      refine gS_ld_owners X dX2_changeOwner_27 (by first | rfl | assumption) (by omega) rfl ?_
      refine g_iload_n X dX2_changeOwner_28 rfl 2 rfl rfl ?_
      refine g_icmp_ne X dX2_changeOwner_29 34 (by decide) rfl (fun h29 => ?_) (fun h29 => ?_)
      · refine g_aload_n X dX2_changeOwner_34 rfl 0 rfl rfl ?_
        refine g_bipush (v := ((-6) : Int32)) X dX2_changeOwner_35 (by decide) rfl ?_
        refine g_callVRsq (n := 1) (As := [_]) (rest := []) X (c_X2_goodStamps l D _ _ _ _ mk hmk h40 hst how _ (Or.inl rfl)) gX2_changeOwner_X2_goodStamps rfl (by decide +kernel) ⟨Nat.le_of_ble_eq_true rfl, Nat.le_of_ble_eq_true rfl⟩ 0 rfl rfl  rfl rfl (Nat.le_of_ble_eq_true rfl) dX2_changeOwner_37 ⟨Nat.le_of_ble_eq_true rfl, Nat.le_of_ble_eq_true rfl⟩ rfl (fun v hv => ?_)
        obtain rfl := hv
        refine g_st (st' := [_]) rfl ?_
        rw [fW_6]
        refine g_lstore_n X [(3, _), (0, _), (1, _), (2, _)] dX2_changeOwner_40 rfl (by decide) rfl rfl ?_
        refine g_aload_n X dX2_changeOwner_41 rfl 1 rfl rfl ?_
        refine gH_get_House_owners X dX2_changeOwner_42 hinX20 hl9 rfl ?_
        refine g_iload_n X dX2_changeOwner_45 rfl 2 rfl rfl ?_
        refine g_iload_n X dX2_changeOwner_46 rfl 3 rfl rfl ?_
        refine gS_st_owners X rfl dX2_changeOwner_47 (by first | rfl | assumption) (by omega) rfl ?_
        refine g_aload_n X dX2_changeOwner_48 rfl 1 rfl rfl ?_
        refine g_iload_n X dX2_changeOwner_49 rfl 2 rfl rfl ?_
        refine g_lload_n X dX2_changeOwner_50 rfl 0 rfl rfl ?_
        refine g_callVWsq (n := 2) (As := [_, _]) (rest := []) X hAg rfl (c_X2_wipeStale l D _ _ _ _ mk n b (hW.own hq hgu2) (NR_up hNR (by omega) (by omega)) f (nI q)) gX2_changeOwner_X2_wipeStale rfl (by decide +kernel) ⟨Nat.le_of_ble_eq_true rfl, Nat.le_of_ble_eq_true rfl⟩ 0 rfl rfl  rfl rfl (Nat.le_of_ble_eq_true rfl) dX2_changeOwner_51 ⟨Nat.le_of_ble_eq_true rfl, Nat.le_of_ble_eq_true rfl⟩ rfl (fun v w hv => ?_)
        obtain ⟨rfl, nb, n2, w2, rfl, hN2, h90⟩ := hv
        refine ⟨rfl, ?_⟩
        refine g_st (st' := [_]) rfl ?_
        refine g_retW X hr (by first | rfl | exact b2i_nar _) dX2_changeOwner_54 hAe ?_
        exact hPost_eq (by unfold ownS; rw [if_pos hC, nI_clamp (by omega), if_neg h29, eN2]) hN2 h90
      · refine g_iconst (v := (0 : Int32)) X dX2_changeOwner_32 (by decide) rfl ?_
        refine g_retW X hr (by first | rfl | exact b2i_nar _) dX2_changeOwner_33 hAe ?_
        exact hPost_of (by unfold ownS; rw [if_pos hC, nI_clamp (by omega), if_pos h29]) hNR hn8
    · refine g_iload_n X dX2_changeOwner_13 rfl 2 rfl rfl ?_
      refine g_callSNR (n := 1) (As := [_]) (rest := []) X (c_X6_isGuest l D _) gX2_changeOwner_X6_isGuest_n92 (List.mem_of_getElem? (i := 3) rfl) (by decide +kernel) (List.mem_of_getElem? (i := 5) rfl) rfl (by decide +kernel) ⟨Nat.le_of_ble_eq_true rfl, Nat.le_of_ble_eq_true rfl⟩ [] rfl rfl rfl rfl (Nat.le_of_ble_eq_true rfl) dX2_changeOwner_14 ⟨Nat.le_of_ble_eq_true rfl, Nat.le_of_ble_eq_true rfl⟩ rfl (fun v hv => ?_)
      obtain rfl := hv
      refine g_st (st' := [_]) rfl ?_
      refine g_if_ne X dX2_changeOwner_17 22 (by decide) rfl (fun h17 => ?_) (fun h17 => ?_)
      · replace h17 := b2i_n0 h17
        have hgu : (decide (gu = -6) || rng 6 gu) = true := by simp [*]
        have hgu2 : gu = -6 ∨ ∃ g : Nat, g < 6 ∧ gu = nI g := by first | exact Or.inl h10 | exact Or.inr (rng_nI h17)
        have hC : (rng 12 (nI q) && (decide (gu = -6) || rng 6 gu)) = true := by rw [rng_nI' hq (by omega), hgu]; rfl
        refine g_aload_n X dX2_changeOwner_22 rfl 0 rfl rfl ?_
        refine gH_get_House_owners X dX2_changeOwner_23 hinX20 hl9 rfl ?_
        refine g_iload_n X dX2_changeOwner_26 rfl 1 rfl rfl ?_
        refine gS_ld_owners X dX2_changeOwner_27 (by first | rfl | assumption) (by omega) rfl ?_
        refine g_iload_n X dX2_changeOwner_28 rfl 2 rfl rfl ?_
        refine g_icmp_ne X dX2_changeOwner_29 34 (by decide) rfl (fun h29 => ?_) (fun h29 => ?_)
        · refine g_aload_n X dX2_changeOwner_34 rfl 0 rfl rfl ?_
          refine g_bipush (v := ((-6) : Int32)) X dX2_changeOwner_35 (by decide) rfl ?_
          refine g_callVRsq (n := 1) (As := [_]) (rest := []) X (c_X2_goodStamps l D _ _ _ _ mk hmk h40 hst how _ (Or.inl rfl)) gX2_changeOwner_X2_goodStamps rfl (by decide +kernel) ⟨Nat.le_of_ble_eq_true rfl, Nat.le_of_ble_eq_true rfl⟩ 0 rfl rfl  rfl rfl (Nat.le_of_ble_eq_true rfl) dX2_changeOwner_37 ⟨Nat.le_of_ble_eq_true rfl, Nat.le_of_ble_eq_true rfl⟩ rfl (fun v hv => ?_)
          obtain rfl := hv
          refine g_st (st' := [_]) rfl ?_
          rw [fW_6]
          refine g_lstore_n X [(3, _), (0, _), (1, _), (2, _)] dX2_changeOwner_40 rfl (by decide) rfl rfl ?_
          refine g_aload_n X dX2_changeOwner_41 rfl 1 rfl rfl ?_
          refine gH_get_House_owners X dX2_changeOwner_42 hinX20 hl9 rfl ?_
          refine g_iload_n X dX2_changeOwner_45 rfl 2 rfl rfl ?_
          refine g_iload_n X dX2_changeOwner_46 rfl 3 rfl rfl ?_
          refine gS_st_owners X rfl dX2_changeOwner_47 (by first | rfl | assumption) (by omega) rfl ?_
          refine g_aload_n X dX2_changeOwner_48 rfl 1 rfl rfl ?_
          refine g_iload_n X dX2_changeOwner_49 rfl 2 rfl rfl ?_
          refine g_lload_n X dX2_changeOwner_50 rfl 0 rfl rfl ?_
          refine g_callVWsq (n := 2) (As := [_, _]) (rest := []) X hAg rfl (c_X2_wipeStale l D _ _ _ _ mk n b (hW.own hq hgu2) (NR_up hNR (by omega) (by omega)) f (nI q)) gX2_changeOwner_X2_wipeStale rfl (by decide +kernel) ⟨Nat.le_of_ble_eq_true rfl, Nat.le_of_ble_eq_true rfl⟩ 0 rfl rfl  rfl rfl (Nat.le_of_ble_eq_true rfl) dX2_changeOwner_51 ⟨Nat.le_of_ble_eq_true rfl, Nat.le_of_ble_eq_true rfl⟩ rfl (fun v w hv => ?_)
          obtain ⟨rfl, nb, n2, w2, rfl, hN2, h90⟩ := hv
          refine ⟨rfl, ?_⟩
          refine g_st (st' := [_]) rfl ?_
          refine g_retW X hr (by first | rfl | exact b2i_nar _) dX2_changeOwner_54 hAe ?_
          exact hPost_eq (by unfold ownS; rw [if_pos hC, nI_clamp (by omega), if_neg h29, eN2]) hN2 h90
        · refine g_iconst (v := (0 : Int32)) X dX2_changeOwner_32 (by decide) rfl ?_
          refine g_retW X hr (by first | rfl | exact b2i_nar _) dX2_changeOwner_33 hAe ?_
          exact hPost_of (by unfold ownS; rw [if_pos hC, nI_clamp (by omega), if_pos h29]) hNR hn8
      · replace h17 := b2i_0 h17
        refine g_iconst (v := ((-1) : Int32)) X dX2_changeOwner_20 (by decide) rfl ?_
        refine g_retW X hr (by first | rfl | exact b2i_nar _) dX2_changeOwner_21 hAe ?_
        exact hPost_of (by unfold ownS; rw [if_neg (by simp [*])]) hNR hn8

set_option maxHeartbeats 4000000 in
set_option maxRecDepth 100000 in
theorem c_X2_giveStamp (l : Launch) (D : DT) (a : Nat → Nat) (f : Nat → Int32) (na : Nat → Nat → Int32) (w : Nat → Int32) (mk n b : Nat) (hW : WF f mk n b) (hNR : NR f na n) (gv hd pg rt : Int32) : MW l yX2_giveStamp wsX2_giveStamp 2 47 0 0 D [.ref (a 0), .int gv, .int hd, .int pg, .int rt] (wHW D a f na w) (hPost D a (stampS f gv hd pg rt)) := by
  obtain ⟨hmk, h40, hn8, hb0, hb1, hb8, hnb, hst, hno, how, hdo, hs1, hs2, hs3, hZF⟩ := id hW
  have h8 : n ≤ 8 := by omega
  obtain ⟨eN1, eN2, eN3⟩ := hW.N
  refine MW.of (cc := cX2_giveStamp) (maxL := 5) (ret := (some .int)) (lv := [(0, .ref (a 0)), (1, .int gv), (2, .int hd), (3, .int pg), (4, .int rt)]) (by decide +kernel) rfl (Nat.le_of_ble_eq_true rfl) rfl ?_
  intro p e s m below meth c A hAe hAg X hr hmn
  have hinX20 : ∀ w ∈ wsX20, w ∈ wsX2_giveStamp := fun w h => List.mem_cons_of_mem _ (List.mem_append_left _ (List.mem_append_right _ h))
  have hinX40 : ∀ w ∈ wsX40, w ∈ wsX2_giveStamp := fun w h => List.mem_cons_of_mem _ (List.mem_append_right _ h)
  have hl35 := List.mem_of_getElem? (l := wsX2_giveStamp) (i := 1) rfl
  have hl9 := List.mem_of_getElem? (l := wsX2_giveStamp) (i := 2) rfl
  refine g_iload_n X dX2_giveStamp_0 rfl 1 rfl rfl ?_
  refine g_callSNR (n := 1) (As := [_]) (rest := []) X (c_X6_isGuest l D _) gX2_giveStamp_X6_isGuest_n92 (List.mem_of_getElem? (i := 4) rfl) (by decide +kernel) (List.mem_of_getElem? (i := 3) rfl) rfl (by decide +kernel) ⟨Nat.le_of_ble_eq_true rfl, Nat.le_of_ble_eq_true rfl⟩ [] rfl rfl rfl rfl (Nat.le_of_ble_eq_true rfl) dX2_giveStamp_1 ⟨Nat.le_of_ble_eq_true rfl, Nat.le_of_ble_eq_true rfl⟩ rfl (fun v hv => ?_)
  obtain rfl := hv
  refine g_st (st' := [_]) rfl ?_
  refine g_if_eq X dX2_giveStamp_4 21 (by decide) rfl (fun h4 => ?_) (fun h4 => ?_)
  · replace h4 := b2i_0 h4
    refine g_iconst (v := ((-1) : Int32)) X dX2_giveStamp_21 (by decide) rfl ?_
    refine g_retW X hr (by first | rfl | exact b2i_nar _) dX2_giveStamp_22 hAe ?_
    exact hPost_of (by unfold stampS; rw [if_neg (by simp [*])]) hNR hn8
  · replace h4 := b2i_n0 h4
    refine g_iload_n X dX2_giveStamp_7 rfl 2 rfl rfl ?_
    refine g_callSNR (n := 1) (As := [_]) (rest := []) X (c_X6_isGuest l D _) gX2_giveStamp_X6_isGuest_n92 (List.mem_of_getElem? (i := 4) rfl) (by decide +kernel) (List.mem_of_getElem? (i := 3) rfl) rfl (by decide +kernel) ⟨Nat.le_of_ble_eq_true rfl, Nat.le_of_ble_eq_true rfl⟩ [] rfl rfl rfl rfl (Nat.le_of_ble_eq_true rfl) dX2_giveStamp_8 ⟨Nat.le_of_ble_eq_true rfl, Nat.le_of_ble_eq_true rfl⟩ rfl (fun v hv => ?_)
    obtain rfl := hv
    refine g_st (st' := [_]) rfl ?_
    refine g_if_eq X dX2_giveStamp_11 21 (by decide) rfl (fun h11 => ?_) (fun h11 => ?_)
    · replace h11 := b2i_0 h11
      refine g_iconst (v := ((-1) : Int32)) X dX2_giveStamp_21 (by decide) rfl ?_
      refine g_retW X hr (by first | rfl | exact b2i_nar _) dX2_giveStamp_22 hAe ?_
      exact hPost_of (by unfold stampS; rw [if_neg (by simp [*])]) hNR hn8
    · replace h11 := b2i_n0 h11
      refine g_iload_n X dX2_giveStamp_14 rfl 3 rfl rfl ?_
      refine g_callSNR (n := 1) (As := [_]) (rest := []) X (c_X6_isPage l D _) gX2_giveStamp_X6_isPage_n88 (List.mem_of_getElem? (i := 4) rfl) (by decide +kernel) (List.mem_of_getElem? (i := 6) rfl) rfl (by decide +kernel) ⟨Nat.le_of_ble_eq_true rfl, Nat.le_of_ble_eq_true rfl⟩ [] rfl rfl rfl rfl (Nat.le_of_ble_eq_true rfl) dX2_giveStamp_15 ⟨Nat.le_of_ble_eq_true rfl, Nat.le_of_ble_eq_true rfl⟩ rfl (fun v hv => ?_)
      obtain rfl := hv
      refine g_st (st' := [_]) rfl ?_
      refine g_if_ne X dX2_giveStamp_18 23 (by decide) rfl (fun h18 => ?_) (fun h18 => ?_)
      · replace h18 := b2i_n0 h18
        have hC : (rng 6 gv && (rng 6 hd && rng 12 pg)) = true := by rw [h4, h11, h18]; rfl
        obtain ⟨q, hq, rfl⟩ := rng_nI h18
        refine g_iload X dX2_giveStamp_23 4 rfl rfl ?_
        refine g_callSNR (n := 1) (As := [_]) (rest := []) X (c_X6_areRights l D _) gX2_giveStamp_X6_areRights_n103 (List.mem_of_getElem? (i := 4) rfl) (by decide +kernel) (List.mem_of_getElem? (i := 8) rfl) rfl (by decide +kernel) ⟨Nat.le_of_ble_eq_true rfl, Nat.le_of_ble_eq_true rfl⟩ [] rfl rfl rfl rfl (Nat.le_of_ble_eq_true rfl) dX2_giveStamp_25 ⟨Nat.le_of_ble_eq_true rfl, Nat.le_of_ble_eq_true rfl⟩ rfl (fun v hv => ?_)
        obtain rfl := hv
        refine g_st (st' := [_]) rfl ?_
        refine g_if_ne X dX2_giveStamp_28 34 (by decide) rfl (fun h28 => ?_) (fun h28 => ?_)
        · replace h28 := b2i_n0 h28
          refine g_aload_n X dX2_giveStamp_34 rfl 0 rfl rfl ?_
          refine gH_get_House_stamps X dX2_giveStamp_35 hinX20 hl35 rfl ?_
          refine g_callVRsq (n := 0) (As := []) (rest := []) X (c_X4_areFull l D _ _ _ _ mk hmk h40) gX2_giveStamp_X4_areFull rfl (by decide +kernel) ⟨Nat.le_of_ble_eq_true rfl, Nat.le_of_ble_eq_true rfl⟩ 5 rfl rfl  rfl rfl (Nat.le_of_ble_eq_true rfl) dX2_giveStamp_38 ⟨Nat.le_of_ble_eq_true rfl, Nat.le_of_ble_eq_true rfl⟩ rfl (fun v hv => ?_)
          obtain rfl := hv
          refine g_st (st' := [_]) rfl ?_
          refine g_if_eq X dX2_giveStamp_41 47 (by decide) rfl (fun h41 => ?_) (fun h41 => ?_)
          · replace h41 := b2i_0 h41
            have hFU := h41
            refine g_aload_n X dX2_giveStamp_47 rfl 0 rfl rfl ?_
            refine gH_get_House_owners X dX2_giveStamp_48 hinX20 hl9 rfl ?_
            refine g_iload_n X dX2_giveStamp_51 rfl 3 rfl rfl ?_
            refine gS_ld_owners X dX2_giveStamp_52 (by first | rfl | assumption) (by omega) rfl ?_
            refine g_iload_n X dX2_giveStamp_53 rfl 1 rfl rfl ?_
            refine g_icmp_eq X dX2_giveStamp_54 60 (by decide) rfl (fun h54 => ?_) (fun h54 => ?_)
            · refine g_aload_n X dX2_giveStamp_60 rfl 0 rfl rfl ?_
              refine gH_get_House_stamps X dX2_giveStamp_61 hinX20 hl35 rfl ?_
              refine g_iload_n X dX2_giveStamp_64 rfl 1 rfl rfl ?_
              refine g_iload_n X dX2_giveStamp_65 rfl 2 rfl rfl ?_
              refine g_iload_n X dX2_giveStamp_66 rfl 3 rfl rfl ?_
              refine g_iload X dX2_giveStamp_67 4 rfl rfl ?_
              refine g_bipush (v := ((-6) : Int32)) X dX2_giveStamp_69 (by decide) rfl ?_
              refine g_iconst (v := (0 : Int32)) X dX2_giveStamp_71 (by decide) rfl ?_
              refine g_callVWsq (n := 6) (As := [_, _, _, _, _, _]) (rest := []) X hAg rfl (c_X4_add l D _ _ _ _ mk hmk h40 hZF _ _ _ _ _ false) gX2_giveStamp_X4_add rfl (by decide +kernel) ⟨Nat.le_of_ble_eq_true rfl, Nat.le_of_ble_eq_true rfl⟩ 5 rfl rfl  rfl rfl (Nat.le_of_ble_eq_true rfl) dX2_giveStamp_72 ⟨Nat.le_of_ble_eq_true rfl, Nat.le_of_ble_eq_true rfl⟩ rfl (fun v w hv => ?_)
              have hne : ¬ mk = 40 := by have := of_decide_eq_false hFU; omega
              simp only [hne, if_false] at hv
              obtain ⟨rfl, rfl⟩ := hv
              refine ⟨rfl, ?_⟩
              refine g_st (st' := [_]) rfl ?_
              refine g_retW X hr (by first | rfl | exact b2i_nar _) dX2_giveStamp_75 hAe ?_
              exact hPost_of (by unfold stampS; rw [if_pos hC, if_pos h28, eN1, if_neg hne, nI_clamp (by omega), if_pos h54]; rfl) (NR_mk hNR (by omega)) ((mkF_lo (by omega) (by omega)).trans hn8)
            · refine g_bipush (v := ((-5) : Int32)) X dX2_giveStamp_57 (by decide) rfl ?_
              refine g_retW X hr (by first | rfl | exact b2i_nar _) dX2_giveStamp_59 hAe ?_
              exact hPost_of (by unfold stampS; rw [if_pos hC, if_pos h28, eN1, if_neg (by have := of_decide_eq_false hFU; omega), nI_clamp (by omega), if_neg h54]) hNR hn8
          · replace h41 := b2i_n0 h41
            have hF := of_decide_eq_true h41
            refine g_bipush (v := ((-4) : Int32)) X dX2_giveStamp_44 (by decide) rfl ?_
            refine g_retW X hr (by first | rfl | exact b2i_nar _) dX2_giveStamp_46 hAe ?_
            exact hPost_of (by unfold stampS; rw [if_pos hC, if_pos h28, eN1, if_pos (by omega)]) hNR hn8
        · replace h28 := b2i_0 h28
          refine g_bipush (v := ((-2) : Int32)) X dX2_giveStamp_31 (by decide) rfl ?_
          refine g_retW X hr (by first | rfl | exact b2i_nar _) dX2_giveStamp_33 hAe ?_
          exact hPost_of (by unfold stampS; rw [if_pos hC, if_neg (by rw [h28]; exact Bool.false_ne_true)]) hNR hn8
      · replace h18 := b2i_0 h18
        refine g_iconst (v := ((-1) : Int32)) X dX2_giveStamp_21 (by decide) rfl ?_
        refine g_retW X hr (by first | rfl | exact b2i_nar _) dX2_giveStamp_22 hAe ?_
        exact hPost_of (by unfold stampS; rw [if_neg (by simp [*])]) hNR hn8

set_option maxHeartbeats 4000000 in
set_option maxRecDepth 100000 in
theorem c_X2_passOn (l : Launch) (D : DT) (a : Nat → Nat) (f : Nat → Int32) (na : Nat → Nat → Int32) (w : Nat → Int32) (mk n b : Nat) (hW : WF f mk n b) (hNR : NR f na n) (sx hd rt : Int32) : MW l yX2_passOn wsX2_passOn 3 72 0 0 D [.ref (a 0), .int sx, .int hd, .int rt] (wHW D a f na w) (hPost D a (passS f sx hd rt)) := by
  obtain ⟨hmk, h40, hn8, hb0, hb1, hb8, hnb, hst, hno, how, hdo, hs1, hs2, hs3, hZF⟩ := id hW
  have h8 : n ≤ 8 := by omega
  obtain ⟨eN1, eN2, eN3⟩ := hW.N
  refine MW.of (cc := cX2_passOn) (maxL := 5) (ret := (some .int)) (lv := [(0, .ref (a 0)), (1, .int sx), (2, .int hd), (3, .int rt)]) (by decide +kernel) rfl (Nat.le_of_ble_eq_true rfl) rfl ?_
  intro p e s m below meth c A hAe hAg X hr hmn
  have hinX20 : ∀ w ∈ wsX20, w ∈ wsX2_passOn := fun w h => List.mem_cons_of_mem _ (List.mem_append_left _ (List.mem_append_right _ h))
  have hinX40 : ∀ w ∈ wsX40, w ∈ wsX2_passOn := fun w h => List.mem_cons_of_mem _ (List.mem_append_right _ h)
  have hl35 := List.mem_of_getElem? (l := wsX2_passOn) (i := 1) rfl
  have hl121 := List.mem_of_getElem? (l := wsX2_passOn) (i := 2) rfl
  have hl124 := List.mem_of_getElem? (l := wsX2_passOn) (i := 3) rfl
  have hl127 := List.mem_of_getElem? (l := wsX2_passOn) (i := 4) rfl
  refine g_aload_n X dX2_passOn_0 rfl 0 rfl rfl ?_
  refine gH_get_House_stamps X dX2_passOn_1 hinX20 hl35 rfl ?_
  refine g_iload_n X dX2_passOn_4 rfl 1 rfl rfl ?_
  refine g_callVRsq (n := 1) (As := [_]) (rest := []) X (c_X4_has l D _ _ _ _ mk hmk h40 _) gX2_passOn_X4_has rfl (by decide +kernel) ⟨Nat.le_of_ble_eq_true rfl, Nat.le_of_ble_eq_true rfl⟩ 5 rfl rfl  rfl rfl (Nat.le_of_ble_eq_true rfl) dX2_passOn_5 ⟨Nat.le_of_ble_eq_true rfl, Nat.le_of_ble_eq_true rfl⟩ rfl (fun v hv => ?_)
  obtain rfl := hv
  refine g_st (st' := [_]) rfl ?_
  refine g_if_eq X dX2_passOn_8 18 (by decide) rfl (fun h8 => ?_) (fun h8 => ?_)
  · replace h8 := b2i_0 h8
    refine g_iconst (v := ((-1) : Int32)) X dX2_passOn_18 (by decide) rfl ?_
    refine g_retW X hr (by first | rfl | exact b2i_nar _) dX2_passOn_19 hAe ?_
    exact hPost_of (by unfold passS; rw [eN1, if_neg (by simp [*])]) hNR hn8
  · replace h8 := b2i_n0 h8
    obtain ⟨q, hq, rfl⟩ := rng_nI h8
    refine g_iload_n X dX2_passOn_11 rfl 2 rfl rfl ?_
    refine g_callSNR (n := 1) (As := [_]) (rest := []) X (c_X6_isGuest l D _) gX2_passOn_X6_isGuest_n92 (List.mem_of_getElem? (i := 12) rfl) (by decide +kernel) (List.mem_of_getElem? (i := 11) rfl) rfl (by decide +kernel) ⟨Nat.le_of_ble_eq_true rfl, Nat.le_of_ble_eq_true rfl⟩ [] rfl rfl rfl rfl (Nat.le_of_ble_eq_true rfl) dX2_passOn_12 ⟨Nat.le_of_ble_eq_true rfl, Nat.le_of_ble_eq_true rfl⟩ rfl (fun v hv => ?_)
    obtain rfl := hv
    refine g_st (st' := [_]) rfl ?_
    refine g_if_ne X dX2_passOn_15 20 (by decide) rfl (fun h15 => ?_) (fun h15 => ?_)
    · replace h15 := b2i_n0 h15
      have hC : (rng mk (nI q) && rng 6 hd) = true := by rw [rng_nI' hq (by omega), h15]; rfl
      refine g_iload_n X dX2_passOn_20 rfl 3 rfl rfl ?_
      refine g_callSNR (n := 1) (As := [_]) (rest := []) X (c_X6_areRights l D _) gX2_passOn_X6_areRights_n103 (List.mem_of_getElem? (i := 12) rfl) (by decide +kernel) (List.mem_of_getElem? (i := 14) rfl) rfl (by decide +kernel) ⟨Nat.le_of_ble_eq_true rfl, Nat.le_of_ble_eq_true rfl⟩ [] rfl rfl rfl rfl (Nat.le_of_ble_eq_true rfl) dX2_passOn_21 ⟨Nat.le_of_ble_eq_true rfl, Nat.le_of_ble_eq_true rfl⟩ rfl (fun v hv => ?_)
      obtain rfl := hv
      refine g_st (st' := [_]) rfl ?_
      refine g_if_ne X dX2_passOn_24 30 (by decide) rfl (fun h24 => ?_) (fun h24 => ?_)
      · replace h24 := b2i_n0 h24
        obtain ⟨r3, hr3, er3⟩ := rt_nI h24
        obtain ⟨-, -, -, ⟨rb, hrb, erb⟩, -, -, -⟩ := id (hst q hq)
        refine g_aload_n X dX2_passOn_30 rfl 0 rfl rfl ?_
        refine gH_get_House_stamps X dX2_passOn_31 hinX20 hl35 rfl ?_
        refine g_callVRsq (n := 0) (As := []) (rest := []) X (c_X4_areFull l D _ _ _ _ mk hmk h40) gX2_passOn_X4_areFull rfl (by decide +kernel) ⟨Nat.le_of_ble_eq_true rfl, Nat.le_of_ble_eq_true rfl⟩ 5 rfl rfl  rfl rfl (Nat.le_of_ble_eq_true rfl) dX2_passOn_34 ⟨Nat.le_of_ble_eq_true rfl, Nat.le_of_ble_eq_true rfl⟩ rfl (fun v hv => ?_)
        obtain rfl := hv
        refine g_st (st' := [_]) rfl ?_
        refine g_if_eq X dX2_passOn_37 43 (by decide) rfl (fun h37 => ?_) (fun h37 => ?_)
        · replace h37 := b2i_0 h37
          have hFU := h37
          refine g_iload_n X dX2_passOn_43 rfl 3 rfl rfl ?_
          refine g_iconst (v := (4 : Int32)) X dX2_passOn_44 (by decide) rfl ?_
          refine g_ior X dX2_passOn_45 rfl ?_
          refine g_istore X [(4, _), (0, _), (1, _), (2, _), (3, _)] dX2_passOn_46 (by decide) rfl rfl ?_
          refine g_aload_n X dX2_passOn_48 rfl 1 rfl rfl ?_
          refine g_bipush (v := ((-6) : Int32)) X dX2_passOn_49 (by decide) rfl ?_
          refine g_callVRsq (n := 1) (As := [_]) (rest := []) X (c_X2_goodStamps l D _ _ _ _ mk hmk h40 hst how _ (Or.inl rfl)) gX2_passOn_X2_goodStamps rfl (by decide +kernel) ⟨Nat.le_of_ble_eq_true rfl, Nat.le_of_ble_eq_true rfl⟩ 0 rfl rfl  rfl rfl (Nat.le_of_ble_eq_true rfl) dX2_passOn_51 ⟨Nat.le_of_ble_eq_true rfl, Nat.le_of_ble_eq_true rfl⟩ rfl (fun v hv => ?_)
          obtain rfl := hv
          refine g_st (st' := [_]) rfl ?_
          rw [fW_6]
          refine g_iload_n X dX2_passOn_54 rfl 2 rfl rfl ?_
          refine g_callSNR (n := 2) (As := [_, _]) (rest := []) X (c_X6_isIn l D (mskN (gd f) mk) q (msk64 (by omega)) (by omega)) gX2_passOn_X6_isIn_n117 (List.mem_of_getElem? (i := 12) rfl) (by decide +kernel) (List.mem_of_getElem? (i := 29) rfl) rfl (by decide +kernel) ⟨Nat.le_of_ble_eq_true rfl, Nat.le_of_ble_eq_true rfl⟩ [] rfl rfl rfl rfl (Nat.le_of_ble_eq_true rfl) dX2_passOn_55 ⟨Nat.le_of_ble_eq_true rfl, Nat.le_of_ble_eq_true rfl⟩ rfl (fun v hv => ?_)
          obtain rfl := hv
          refine g_st (st' := [_]) rfl ?_
          have hT : (mskN (gd f) mk).testBit q = gd f q := by rw [mskN_bit, decide_eq_true hq, Bool.true_and]
          refine g_topi (y := b2i (gd f q)) (congrArg b2i hT) ?_
          refine g_if_eq X dX2_passOn_58 78 (by decide) rfl (fun h58 => ?_) (fun h58 => ?_)
          · replace h58 := b2i_0 h58
            refine g_bipush (v := ((-5) : Int32)) X dX2_passOn_78 (by decide) rfl ?_
            refine g_retW X hr (by first | rfl | exact b2i_nar _) dX2_passOn_80 hAe ?_
            have hne : ¬ mk = 40 := by have := of_decide_eq_false hFU; omega
            have hX : ¬ (gd f q && (decide (¬ ofM f q 3 &&& 4 = 0) && decide (ofM f q 3 &&& rt = rt))) = true := by
              intro z
              obtain ⟨z0, z⟩ := Bool.and_eq_true_iff.mp z
              obtain ⟨z1, z2⟩ := Bool.and_eq_true_iff.mp z
              have z1 := of_decide_eq_true z1
              have z2 := of_decide_eq_true z2
              first
              | exact Bool.false_ne_true (h58.symm.trans z0)
              | (rw [er3, erb] at z2; rw [erb] at z1; exact h75 (by rw [er3, erb]; exact (rt_sub r3 hr3 rb hrb).mpr ⟨z1, z2⟩))
            exact hPost_of (by unfold passS; rw [eN1, if_pos hC, if_pos h24, if_neg hne, nI_clamp (by omega), if_neg hX]) hNR hn8
          · replace h58 := b2i_n0 h58
            refine g_iload X dX2_passOn_61 0 rfl rfl ?_
            refine g_aload_n X dX2_passOn_63 rfl 1 rfl rfl ?_
            refine gH_get_House_stamps X dX2_passOn_64 hinX20 hl35 rfl ?_
            refine gH_get_Stamps_rights X dX2_passOn_67 hinX40 hl121 rfl ?_
            refine g_iload_n X dX2_passOn_70 rfl 2 rfl rfl ?_
            refine gS_ld_rights X dX2_passOn_71 (by first | rfl | assumption) (by omega) rfl ?_
            refine g_iconst (v := ((-1) : Int32)) X dX2_passOn_72 (by decide) rfl ?_
            refine g_ixor X dX2_passOn_73 rfl ?_
            refine g_iand X dX2_passOn_74 rfl ?_
            refine g_if_eq X dX2_passOn_75 81 (by decide) rfl (fun h75 => ?_) (fun h75 => ?_)
            · refine g_aload_n X dX2_passOn_81 rfl 1 rfl rfl ?_
              refine gH_get_House_stamps X dX2_passOn_82 hinX20 hl35 rfl ?_
              refine g_aload_n X dX2_passOn_85 rfl 1 rfl rfl ?_
              refine gH_get_House_stamps X dX2_passOn_86 hinX20 hl35 rfl ?_
              refine gH_get_Stamps_holder X dX2_passOn_89 hinX40 hl124 rfl ?_
              refine g_iload_n X dX2_passOn_92 rfl 2 rfl rfl ?_
              refine gS_ld_holder X dX2_passOn_93 (by first | rfl | assumption) (by omega) rfl ?_
              refine g_iload_n X dX2_passOn_94 rfl 3 rfl rfl ?_
              refine g_aload_n X dX2_passOn_95 rfl 1 rfl rfl ?_
              refine gH_get_House_stamps X dX2_passOn_96 hinX20 hl35 rfl ?_
              refine gH_get_Stamps_page X dX2_passOn_99 hinX40 hl127 rfl ?_
              refine g_iload_n X dX2_passOn_102 rfl 2 rfl rfl ?_
              refine gS_ld_page X dX2_passOn_103 (by first | rfl | assumption) (by omega) rfl ?_
              refine g_iload_n X dX2_passOn_104 rfl 4 rfl rfl ?_
              refine g_iload_n X dX2_passOn_105 rfl 2 rfl rfl ?_
              refine g_iconst (v := (0 : Int32)) X dX2_passOn_106 (by decide) rfl ?_
              refine g_callVWsq (n := 6) (As := [_, _, _, _, _, _]) (rest := []) X hAg rfl (c_X4_add l D _ _ _ _ mk hmk h40 hZF _ _ _ _ _ false) gX2_passOn_X4_add rfl (by decide +kernel) ⟨Nat.le_of_ble_eq_true rfl, Nat.le_of_ble_eq_true rfl⟩ 5 rfl rfl  rfl rfl (Nat.le_of_ble_eq_true rfl) dX2_passOn_107 ⟨Nat.le_of_ble_eq_true rfl, Nat.le_of_ble_eq_true rfl⟩ rfl (fun v w hv => ?_)
              have hne : ¬ mk = 40 := by have := of_decide_eq_false hFU; omega
              simp only [hne, if_false] at hv
              obtain ⟨rfl, rfl⟩ := hv
              refine ⟨rfl, ?_⟩
              refine g_st (st' := [_]) rfl ?_
              refine g_retW X hr (by first | rfl | exact b2i_nar _) dX2_passOn_110 hAe ?_
              have hX : (gd f q && (decide (¬ ofM f q 3 &&& 4 = 0) && decide (ofM f q 3 &&& rt = rt))) = true := by
                rw [er3, erb] at h75
                obtain ⟨z1, z2⟩ := (rt_sub r3 hr3 rb hrb).mp h75
                rw [h58, er3, erb, decide_eq_true z1, decide_eq_true z2]; rfl
              exact hPost_of (by unfold passS; rw [eN1, if_pos hC, if_pos h24, if_neg hne, nI_clamp (by omega), if_pos hX]; rfl) (NR_mk hNR (by omega)) ((mkF_lo (by omega) (by omega)).trans hn8)
            · refine g_bipush (v := ((-5) : Int32)) X dX2_passOn_78 (by decide) rfl ?_
              refine g_retW X hr (by first | rfl | exact b2i_nar _) dX2_passOn_80 hAe ?_
              have hne : ¬ mk = 40 := by have := of_decide_eq_false hFU; omega
              have hX : ¬ (gd f q && (decide (¬ ofM f q 3 &&& 4 = 0) && decide (ofM f q 3 &&& rt = rt))) = true := by
                intro z
                obtain ⟨z0, z⟩ := Bool.and_eq_true_iff.mp z
                obtain ⟨z1, z2⟩ := Bool.and_eq_true_iff.mp z
                have z1 := of_decide_eq_true z1
                have z2 := of_decide_eq_true z2
                first
                | exact Bool.false_ne_true (h58.symm.trans z0)
                | (rw [er3, erb] at z2; rw [erb] at z1; exact h75 (by rw [er3, erb]; exact (rt_sub r3 hr3 rb hrb).mpr ⟨z1, z2⟩))
              exact hPost_of (by unfold passS; rw [eN1, if_pos hC, if_pos h24, if_neg hne, nI_clamp (by omega), if_neg hX]) hNR hn8
        · replace h37 := b2i_n0 h37
          have hF := of_decide_eq_true h37
          refine g_bipush (v := ((-4) : Int32)) X dX2_passOn_40 (by decide) rfl ?_
          refine g_retW X hr (by first | rfl | exact b2i_nar _) dX2_passOn_42 hAe ?_
          exact hPost_of (by unfold passS; rw [eN1, if_pos hC, if_pos h24, if_pos (by omega)]) hNR hn8
      · replace h24 := b2i_0 h24
        refine g_bipush (v := ((-2) : Int32)) X dX2_passOn_27 (by decide) rfl ?_
        refine g_retW X hr (by first | rfl | exact b2i_nar _) dX2_passOn_29 hAe ?_
        exact hPost_of (by unfold passS; rw [eN1, if_pos hC, if_neg (by rw [h24]; exact Bool.false_ne_true)]) hNR hn8
    · replace h15 := b2i_0 h15
      refine g_iconst (v := ((-1) : Int32)) X dX2_passOn_18 (by decide) rfl ?_
      refine g_retW X hr (by first | rfl | exact b2i_nar _) dX2_passOn_19 hAe ?_
      exact hPost_of (by unfold passS; rw [eN1, if_neg (by simp [*])]) hNR hn8

set_option maxHeartbeats 4000000 in
set_option maxRecDepth 100000 in
theorem c_X2_forgeStamp (l : Launch) (D : DT) (a : Nat → Nat) (f : Nat → Int32) (na : Nat → Nat → Int32) (w : Nat → Int32) (mk n b : Nat) (hW : WF f mk n b) (hNR : NR f na n) (gv hd pg rt ro : Int32) : MW l yX2_forgeStamp wsX2_forgeStamp 2 47 0 0 D [.ref (a 0), .int gv, .int hd, .int pg, .int rt, .int ro] (wHW D a f na w) (hPost D a (forgeS f gv hd pg rt ro)) := by
  obtain ⟨hmk, h40, hn8, hb0, hb1, hb8, hnb, hst, hno, how, hdo, hs1, hs2, hs3, hZF⟩ := id hW
  have h8 : n ≤ 8 := by omega
  obtain ⟨eN1, eN2, eN3⟩ := hW.N
  refine MW.of (cc := cX2_forgeStamp) (maxL := 6) (ret := (some .int)) (lv := [(0, .ref (a 0)), (1, .int gv), (2, .int hd), (3, .int pg), (4, .int rt), (5, .int ro)]) (by decide +kernel) rfl (Nat.le_of_ble_eq_true rfl) rfl ?_
  intro p e s m below meth c A hAe hAg X hr hmn
  have hinX20 : ∀ w ∈ wsX20, w ∈ wsX2_forgeStamp := fun w h => List.mem_cons_of_mem _ (List.mem_append_left _ (List.mem_append_right _ h))
  have hinX40 : ∀ w ∈ wsX40, w ∈ wsX2_forgeStamp := fun w h => List.mem_cons_of_mem _ (List.mem_append_right _ h)
  have hl35 := List.mem_of_getElem? (l := wsX2_forgeStamp) (i := 1) rfl
  refine g_iload_n X dX2_forgeStamp_0 rfl 1 rfl rfl ?_
  refine g_callSNR (n := 1) (As := [_]) (rest := []) X (c_X6_isGuest l D _) gX2_forgeStamp_X6_isGuest_n92 (List.mem_of_getElem? (i := 3) rfl) (by decide +kernel) (List.mem_of_getElem? (i := 2) rfl) rfl (by decide +kernel) ⟨Nat.le_of_ble_eq_true rfl, Nat.le_of_ble_eq_true rfl⟩ [] rfl rfl rfl rfl (Nat.le_of_ble_eq_true rfl) dX2_forgeStamp_1 ⟨Nat.le_of_ble_eq_true rfl, Nat.le_of_ble_eq_true rfl⟩ rfl (fun v hv => ?_)
  obtain rfl := hv
  refine g_st (st' := [_]) rfl ?_
  refine g_if_eq X dX2_forgeStamp_4 40 (by decide) rfl (fun h4 => ?_) (fun h4 => ?_)
  · replace h4 := b2i_0 h4
    refine g_iconst (v := ((-1) : Int32)) X dX2_forgeStamp_40 (by decide) rfl ?_
    refine g_retW X hr (by first | rfl | exact b2i_nar _) dX2_forgeStamp_41 hAe ?_
    exact hPost_of (by unfold forgeS; rw [eN1, if_neg (by simp [*])]) hNR hn8
  · replace h4 := b2i_n0 h4
    refine g_iload_n X dX2_forgeStamp_7 rfl 2 rfl rfl ?_
    refine g_callSNR (n := 1) (As := [_]) (rest := []) X (c_X6_isGuest l D _) gX2_forgeStamp_X6_isGuest_n92 (List.mem_of_getElem? (i := 3) rfl) (by decide +kernel) (List.mem_of_getElem? (i := 2) rfl) rfl (by decide +kernel) ⟨Nat.le_of_ble_eq_true rfl, Nat.le_of_ble_eq_true rfl⟩ [] rfl rfl rfl rfl (Nat.le_of_ble_eq_true rfl) dX2_forgeStamp_8 ⟨Nat.le_of_ble_eq_true rfl, Nat.le_of_ble_eq_true rfl⟩ rfl (fun v hv => ?_)
    obtain rfl := hv
    refine g_st (st' := [_]) rfl ?_
    refine g_if_eq X dX2_forgeStamp_11 40 (by decide) rfl (fun h11 => ?_) (fun h11 => ?_)
    · replace h11 := b2i_0 h11
      refine g_iconst (v := ((-1) : Int32)) X dX2_forgeStamp_40 (by decide) rfl ?_
      refine g_retW X hr (by first | rfl | exact b2i_nar _) dX2_forgeStamp_41 hAe ?_
      exact hPost_of (by unfold forgeS; rw [eN1, if_neg (by simp [*])]) hNR hn8
    · replace h11 := b2i_n0 h11
      refine g_iload_n X dX2_forgeStamp_14 rfl 3 rfl rfl ?_
      refine g_callSNR (n := 1) (As := [_]) (rest := []) X (c_X6_isPage l D _) gX2_forgeStamp_X6_isPage_n88 (List.mem_of_getElem? (i := 3) rfl) (by decide +kernel) (List.mem_of_getElem? (i := 5) rfl) rfl (by decide +kernel) ⟨Nat.le_of_ble_eq_true rfl, Nat.le_of_ble_eq_true rfl⟩ [] rfl rfl rfl rfl (Nat.le_of_ble_eq_true rfl) dX2_forgeStamp_15 ⟨Nat.le_of_ble_eq_true rfl, Nat.le_of_ble_eq_true rfl⟩ rfl (fun v hv => ?_)
      obtain rfl := hv
      refine g_st (st' := [_]) rfl ?_
      refine g_if_eq X dX2_forgeStamp_18 40 (by decide) rfl (fun h18 => ?_) (fun h18 => ?_)
      · replace h18 := b2i_0 h18
        refine g_iconst (v := ((-1) : Int32)) X dX2_forgeStamp_40 (by decide) rfl ?_
        refine g_retW X hr (by first | rfl | exact b2i_nar _) dX2_forgeStamp_41 hAe ?_
        exact hPost_of (by unfold forgeS; rw [eN1, if_neg (by simp [*])]) hNR hn8
      · replace h18 := b2i_n0 h18
        refine g_iload X dX2_forgeStamp_21 5 rfl rfl ?_
        refine g_bipush (v := ((-6) : Int32)) X dX2_forgeStamp_23 (by decide) rfl ?_
        refine g_icmp_eq X dX2_forgeStamp_25 42 (by decide) rfl (fun h25 => ?_) (fun h25 => ?_)
        · have hro : (decide (ro = -6) || rng mk ro) = true := by simp [*]
          have hC : (rng 6 gv && (rng 6 hd && (rng 12 pg && (decide (ro = -6) || rng mk ro)))) = true := by rw [h4, h11, h18, hro]; rfl
          refine g_iload X dX2_forgeStamp_42 4 rfl rfl ?_
          refine g_callSNR (n := 1) (As := [_]) (rest := []) X (c_X6_areRights l D _) gX2_forgeStamp_X6_areRights_n103 (List.mem_of_getElem? (i := 3) rfl) (by decide +kernel) (List.mem_of_getElem? (i := 13) rfl) rfl (by decide +kernel) ⟨Nat.le_of_ble_eq_true rfl, Nat.le_of_ble_eq_true rfl⟩ [] rfl rfl rfl rfl (Nat.le_of_ble_eq_true rfl) dX2_forgeStamp_44 ⟨Nat.le_of_ble_eq_true rfl, Nat.le_of_ble_eq_true rfl⟩ rfl (fun v hv => ?_)
          obtain rfl := hv
          refine g_st (st' := [_]) rfl ?_
          refine g_if_ne X dX2_forgeStamp_47 53 (by decide) rfl (fun h47 => ?_) (fun h47 => ?_)
          · replace h47 := b2i_n0 h47
            refine g_aload_n X dX2_forgeStamp_53 rfl 0 rfl rfl ?_
            refine gH_get_House_stamps X dX2_forgeStamp_54 hinX20 hl35 rfl ?_
            refine g_callVRsq (n := 0) (As := []) (rest := []) X (c_X4_areFull l D _ _ _ _ mk hmk h40) gX2_forgeStamp_X4_areFull rfl (by decide +kernel) ⟨Nat.le_of_ble_eq_true rfl, Nat.le_of_ble_eq_true rfl⟩ 5 rfl rfl  rfl rfl (Nat.le_of_ble_eq_true rfl) dX2_forgeStamp_57 ⟨Nat.le_of_ble_eq_true rfl, Nat.le_of_ble_eq_true rfl⟩ rfl (fun v hv => ?_)
            obtain rfl := hv
            refine g_st (st' := [_]) rfl ?_
            refine g_if_eq X dX2_forgeStamp_60 66 (by decide) rfl (fun h60 => ?_) (fun h60 => ?_)
            · replace h60 := b2i_0 h60
              have hFU := h60
              refine g_aload_n X dX2_forgeStamp_66 rfl 0 rfl rfl ?_
              refine gH_get_House_stamps X dX2_forgeStamp_67 hinX20 hl35 rfl ?_
              refine g_iload_n X dX2_forgeStamp_70 rfl 1 rfl rfl ?_
              refine g_iload_n X dX2_forgeStamp_71 rfl 2 rfl rfl ?_
              refine g_iload_n X dX2_forgeStamp_72 rfl 3 rfl rfl ?_
              refine g_iload X dX2_forgeStamp_73 4 rfl rfl ?_
              refine g_iload X dX2_forgeStamp_75 5 rfl rfl ?_
              refine g_iconst (v := (1 : Int32)) X dX2_forgeStamp_77 (by decide) rfl ?_
              refine g_callVWsq (n := 6) (As := [_, _, _, _, _, _]) (rest := []) X hAg rfl (c_X4_add l D _ _ _ _ mk hmk h40 hZF _ _ _ _ _ true) gX2_forgeStamp_X4_add rfl (by decide +kernel) ⟨Nat.le_of_ble_eq_true rfl, Nat.le_of_ble_eq_true rfl⟩ 5 rfl rfl  rfl rfl (Nat.le_of_ble_eq_true rfl) dX2_forgeStamp_78 ⟨Nat.le_of_ble_eq_true rfl, Nat.le_of_ble_eq_true rfl⟩ rfl (fun v w hv => ?_)
              have hne : ¬ mk = 40 := by have := of_decide_eq_false hFU; omega
              simp only [hne, if_false] at hv
              obtain ⟨rfl, rfl⟩ := hv
              refine ⟨rfl, ?_⟩
              refine g_st (st' := [_]) rfl ?_
              refine g_retW X hr (by first | rfl | exact b2i_nar _) dX2_forgeStamp_81 hAe ?_
              exact hPost_of (by unfold forgeS; rw [eN1, if_pos hC, if_pos h47, if_neg hne]; rfl) (NR_mk hNR (by omega)) ((mkF_lo (by omega) (by omega)).trans hn8)
            · replace h60 := b2i_n0 h60
              have hF := of_decide_eq_true h60
              refine g_bipush (v := ((-4) : Int32)) X dX2_forgeStamp_63 (by decide) rfl ?_
              refine g_retW X hr (by first | rfl | exact b2i_nar _) dX2_forgeStamp_65 hAe ?_
              exact hPost_of (by unfold forgeS; rw [eN1, if_pos hC, if_pos h47, if_pos (by omega)]) hNR hn8
          · replace h47 := b2i_0 h47
            refine g_bipush (v := ((-2) : Int32)) X dX2_forgeStamp_50 (by decide) rfl ?_
            refine g_retW X hr (by first | rfl | exact b2i_nar _) dX2_forgeStamp_52 hAe ?_
            exact hPost_of (by unfold forgeS; rw [eN1, if_pos hC, if_neg (by rw [h47]; exact Bool.false_ne_true)]) hNR hn8
        · refine g_aload_n X dX2_forgeStamp_28 rfl 0 rfl rfl ?_
          refine gH_get_House_stamps X dX2_forgeStamp_29 hinX20 hl35 rfl ?_
          refine g_iload X dX2_forgeStamp_32 5 rfl rfl ?_
          refine g_callVRsq (n := 1) (As := [_]) (rest := []) X (c_X4_has l D _ _ _ _ mk hmk h40 _) gX2_forgeStamp_X4_has rfl (by decide +kernel) ⟨Nat.le_of_ble_eq_true rfl, Nat.le_of_ble_eq_true rfl⟩ 5 rfl rfl  rfl rfl (Nat.le_of_ble_eq_true rfl) dX2_forgeStamp_34 ⟨Nat.le_of_ble_eq_true rfl, Nat.le_of_ble_eq_true rfl⟩ rfl (fun v hv => ?_)
          obtain rfl := hv
          refine g_st (st' := [_]) rfl ?_
          refine g_if_ne X dX2_forgeStamp_37 42 (by decide) rfl (fun h37 => ?_) (fun h37 => ?_)
          · replace h37 := b2i_n0 h37
            have hro : (decide (ro = -6) || rng mk ro) = true := by simp [*]
            have hC : (rng 6 gv && (rng 6 hd && (rng 12 pg && (decide (ro = -6) || rng mk ro)))) = true := by rw [h4, h11, h18, hro]; rfl
            refine g_iload X dX2_forgeStamp_42 4 rfl rfl ?_
            refine g_callSNR (n := 1) (As := [_]) (rest := []) X (c_X6_areRights l D _) gX2_forgeStamp_X6_areRights_n103 (List.mem_of_getElem? (i := 3) rfl) (by decide +kernel) (List.mem_of_getElem? (i := 13) rfl) rfl (by decide +kernel) ⟨Nat.le_of_ble_eq_true rfl, Nat.le_of_ble_eq_true rfl⟩ [] rfl rfl rfl rfl (Nat.le_of_ble_eq_true rfl) dX2_forgeStamp_44 ⟨Nat.le_of_ble_eq_true rfl, Nat.le_of_ble_eq_true rfl⟩ rfl (fun v hv => ?_)
            obtain rfl := hv
            refine g_st (st' := [_]) rfl ?_
            refine g_if_ne X dX2_forgeStamp_47 53 (by decide) rfl (fun h47 => ?_) (fun h47 => ?_)
            · replace h47 := b2i_n0 h47
              refine g_aload_n X dX2_forgeStamp_53 rfl 0 rfl rfl ?_
              refine gH_get_House_stamps X dX2_forgeStamp_54 hinX20 hl35 rfl ?_
              refine g_callVRsq (n := 0) (As := []) (rest := []) X (c_X4_areFull l D _ _ _ _ mk hmk h40) gX2_forgeStamp_X4_areFull rfl (by decide +kernel) ⟨Nat.le_of_ble_eq_true rfl, Nat.le_of_ble_eq_true rfl⟩ 5 rfl rfl  rfl rfl (Nat.le_of_ble_eq_true rfl) dX2_forgeStamp_57 ⟨Nat.le_of_ble_eq_true rfl, Nat.le_of_ble_eq_true rfl⟩ rfl (fun v hv => ?_)
              obtain rfl := hv
              refine g_st (st' := [_]) rfl ?_
              refine g_if_eq X dX2_forgeStamp_60 66 (by decide) rfl (fun h60 => ?_) (fun h60 => ?_)
              · replace h60 := b2i_0 h60
                have hFU := h60
                refine g_aload_n X dX2_forgeStamp_66 rfl 0 rfl rfl ?_
                refine gH_get_House_stamps X dX2_forgeStamp_67 hinX20 hl35 rfl ?_
                refine g_iload_n X dX2_forgeStamp_70 rfl 1 rfl rfl ?_
                refine g_iload_n X dX2_forgeStamp_71 rfl 2 rfl rfl ?_
                refine g_iload_n X dX2_forgeStamp_72 rfl 3 rfl rfl ?_
                refine g_iload X dX2_forgeStamp_73 4 rfl rfl ?_
                refine g_iload X dX2_forgeStamp_75 5 rfl rfl ?_
                refine g_iconst (v := (1 : Int32)) X dX2_forgeStamp_77 (by decide) rfl ?_
                refine g_callVWsq (n := 6) (As := [_, _, _, _, _, _]) (rest := []) X hAg rfl (c_X4_add l D _ _ _ _ mk hmk h40 hZF _ _ _ _ _ true) gX2_forgeStamp_X4_add rfl (by decide +kernel) ⟨Nat.le_of_ble_eq_true rfl, Nat.le_of_ble_eq_true rfl⟩ 5 rfl rfl  rfl rfl (Nat.le_of_ble_eq_true rfl) dX2_forgeStamp_78 ⟨Nat.le_of_ble_eq_true rfl, Nat.le_of_ble_eq_true rfl⟩ rfl (fun v w hv => ?_)
                have hne : ¬ mk = 40 := by have := of_decide_eq_false hFU; omega
                simp only [hne, if_false] at hv
                obtain ⟨rfl, rfl⟩ := hv
                refine ⟨rfl, ?_⟩
                refine g_st (st' := [_]) rfl ?_
                refine g_retW X hr (by first | rfl | exact b2i_nar _) dX2_forgeStamp_81 hAe ?_
                exact hPost_of (by unfold forgeS; rw [eN1, if_pos hC, if_pos h47, if_neg hne]; rfl) (NR_mk hNR (by omega)) ((mkF_lo (by omega) (by omega)).trans hn8)
              · replace h60 := b2i_n0 h60
                have hF := of_decide_eq_true h60
                refine g_bipush (v := ((-4) : Int32)) X dX2_forgeStamp_63 (by decide) rfl ?_
                refine g_retW X hr (by first | rfl | exact b2i_nar _) dX2_forgeStamp_65 hAe ?_
                exact hPost_of (by unfold forgeS; rw [eN1, if_pos hC, if_pos h47, if_pos (by omega)]) hNR hn8
            · replace h47 := b2i_0 h47
              refine g_bipush (v := ((-2) : Int32)) X dX2_forgeStamp_50 (by decide) rfl ?_
              refine g_retW X hr (by first | rfl | exact b2i_nar _) dX2_forgeStamp_52 hAe ?_
              exact hPost_of (by unfold forgeS; rw [eN1, if_pos hC, if_neg (by rw [h47]; exact Bool.false_ne_true)]) hNR hn8
          · replace h37 := b2i_0 h37
            refine g_iconst (v := ((-1) : Int32)) X dX2_forgeStamp_40 (by decide) rfl ?_
            refine g_retW X hr (by first | rfl | exact b2i_nar _) dX2_forgeStamp_41 hAe ?_
            exact hPost_of (by unfold forgeS; rw [eN1, if_neg (by simp [*])]) hNR hn8

set_option maxHeartbeats 4000000 in
set_option maxRecDepth 100000 in
theorem c_X2_revoke (l : Launch) (D : DT) (a : Nat → Nat) (f : Nat → Int32) (na : Nat → Nat → Int32) (w : Nat → Int32) (mk n b : Nat) (hW : WF f mk n b) (hNR : NR f na n) (sx : Int32) : MW l yX2_revoke wsX2_revoke 4 95 0 0 D [.ref (a 0), .int sx] (wHW D a f na w) (hPost D a (takeS f sx)) := by
  obtain ⟨hmk, h40, hn8, hb0, hb1, hb8, hnb, hst, hno, how, hdo, hs1, hs2, hs3, hZF⟩ := id hW
  have h8 : n ≤ 8 := by omega
  obtain ⟨eN1, eN2, eN3⟩ := hW.N
  refine MW.of (cc := cX2_revoke) (maxL := 4) (ret := (some .int)) (lv := [(0, .ref (a 0)), (1, .int sx)]) (by decide +kernel) rfl (Nat.le_of_ble_eq_true rfl) rfl ?_
  intro p e s m below meth c A hAe hAg X hr hmn
  have hinX20 : ∀ w ∈ wsX20, w ∈ wsX2_revoke := fun w h => List.mem_cons_of_mem _ (List.mem_append_left _ (List.mem_append_left _ (List.mem_append_right _ h)))
  have hinX40 : ∀ w ∈ wsX40, w ∈ wsX2_revoke := fun w h => List.mem_cons_of_mem _ (List.mem_append_left _ (List.mem_append_right _ h))
  have hinX00 : ∀ w ∈ wsX00, w ∈ wsX2_revoke := fun w h => List.mem_cons_of_mem _ (List.mem_append_right _ h)
  have hl35 := List.mem_of_getElem? (l := wsX2_revoke) (i := 1) rfl
  have hl130 := List.mem_of_getElem? (l := wsX2_revoke) (i := 2) rfl
  have hl127 := List.mem_of_getElem? (l := wsX2_revoke) (i := 3) rfl
  refine g_aload_n X dX2_revoke_0 rfl 0 rfl rfl ?_
  refine gH_get_House_stamps X dX2_revoke_1 hinX20 hl35 rfl ?_
  refine g_iload_n X dX2_revoke_4 rfl 1 rfl rfl ?_
  refine g_callVRsq (n := 1) (As := [_]) (rest := []) X (c_X4_has l D _ _ _ _ mk hmk h40 _) gX2_revoke_X4_has rfl (by decide +kernel) ⟨Nat.le_of_ble_eq_true rfl, Nat.le_of_ble_eq_true rfl⟩ 5 rfl rfl  rfl rfl (Nat.le_of_ble_eq_true rfl) dX2_revoke_5 ⟨Nat.le_of_ble_eq_true rfl, Nat.le_of_ble_eq_true rfl⟩ rfl (fun v hv => ?_)
  obtain rfl := hv
  refine g_st (st' := [_]) rfl ?_
  refine g_if_ne X dX2_revoke_8 13 (by decide) rfl (fun h8 => ?_) (fun h8 => ?_)
  · replace h8 := b2i_n0 h8
    obtain ⟨q, hq, rfl⟩ := rng_nI h8
    obtain ⟨-, -, -, -, -, -, ⟨b6, e6⟩⟩ := id (hst q hq)
    refine g_aload_n X dX2_revoke_13 rfl 0 rfl rfl ?_
    refine gH_get_House_stamps X dX2_revoke_14 hinX20 hl35 rfl ?_
    refine gH_get_Stamps_taken X dX2_revoke_17 hinX40 hl130 rfl ?_
    refine g_iload_n X dX2_revoke_20 rfl 1 rfl rfl ?_
    refine g_callSNR (n := 2) (As := [_, _]) (rest := []) X (c_X6_isIn l D (mkB f 6) q (mkB_lt f 6) (by omega)) gX2_revoke_X6_isIn_n117 (List.mem_of_getElem? (i := 11) rfl) (by decide +kernel) (List.mem_of_getElem? (i := 10) rfl) rfl (by decide +kernel) ⟨Nat.le_of_ble_eq_true rfl, Nat.le_of_ble_eq_true rfl⟩ [] rfl rfl rfl rfl (Nat.le_of_ble_eq_true rfl) dX2_revoke_21 ⟨Nat.le_of_ble_eq_true rfl, Nat.le_of_ble_eq_true rfl⟩ rfl (fun v hv => ?_)
    obtain rfl := hv
    refine g_st (st' := [_]) rfl ?_
    refine g_topi (congrArg b2i (mkB_b (j := 6) (by omega) e6)) ?_
    refine g_if_eq X dX2_revoke_24 30 (by decide) rfl (fun h24 => ?_) (fun h24 => ?_)
    · replace h24 := b2i_0 h24
      refine g_aload_n X dX2_revoke_30 rfl 0 rfl rfl ?_
      refine g_bipush (v := ((-6) : Int32)) X dX2_revoke_31 (by decide) rfl ?_
      refine g_callVRsq (n := 1) (As := [_]) (rest := []) X (c_X2_goodStamps l D _ _ _ _ mk hmk h40 hst how _ (Or.inl rfl)) gX2_revoke_X2_goodStamps rfl (by decide +kernel) ⟨Nat.le_of_ble_eq_true rfl, Nat.le_of_ble_eq_true rfl⟩ 0 rfl rfl  rfl rfl (Nat.le_of_ble_eq_true rfl) dX2_revoke_33 ⟨Nat.le_of_ble_eq_true rfl, Nat.le_of_ble_eq_true rfl⟩ rfl (fun v hv => ?_)
      obtain rfl := hv
      refine g_st (st' := [_]) rfl ?_
      rw [fW_6]
      refine g_lstore_n X [(2, _), (0, _), (1, _)] dX2_revoke_36 rfl (by decide) rfl rfl ?_
      refine g_aload_n X dX2_revoke_37 rfl 1 rfl rfl ?_
      refine gH_get_House_stamps X dX2_revoke_38 hinX20 hl35 rfl ?_
      refine g_dup X dX2_revoke_41 rfl rfl ?_
      refine gH_get_Stamps_taken X dX2_revoke_42 hinX40 hl130 rfl ?_
      refine g_lconst (v := (1 : Int64)) X dX2_revoke_45 (by decide) rfl ?_
      refine g_iload_n X dX2_revoke_46 rfl 2 rfl rfl ?_
      refine g_lshl X dX2_revoke_47 rfl rfl ?_
      refine g_lor X dX2_revoke_48 rfl ?_
      refine g_topl (lmsk (mkB_lt _ _) (by omega)) ?_
      refine gH_put_Stamps_taken (k := q) X rfl dX2_revoke_49 hinX40 hl130 rfl (by omega) rfl ?_
      refine g_ws (wHW_f (show up f (127 + 6 + 7 * q) 1 = up f (127 + 7 * q + 6) 1 from by rw [show 127 + 6 + 7 * q = 127 + 7 * q + 6 from by omega])) ?_
      refine g_aload_n X dX2_revoke_52 rfl 1 rfl rfl ?_
      refine g_aload_n X dX2_revoke_53 rfl 1 rfl rfl ?_
      refine gH_get_House_stamps X dX2_revoke_54 hinX20 hl35 rfl ?_
      refine gH_get_Stamps_page X dX2_revoke_57 hinX40 hl127 rfl ?_
      refine g_iload_n X dX2_revoke_60 rfl 2 rfl rfl ?_
      refine gS_ld_page X dX2_revoke_61 (by first | rfl | assumption) (by omega) rfl ?_
      refine g_topi (show _ = ofM f q 0 from up_n _ _ (by omega)) ?_
      refine g_lload_n X dX2_revoke_62 rfl 0 rfl rfl ?_
      refine g_callVWsq (n := 2) (As := [_, _]) (rest := []) X hAg rfl (c_X2_wipeStale l D _ _ _ _ mk n b (hW.take hq) (NR_up hNR (by omega) (by omega)) f (ofM f q 0)) gX2_revoke_X2_wipeStale rfl (by decide +kernel) ⟨Nat.le_of_ble_eq_true rfl, Nat.le_of_ble_eq_true rfl⟩ 0 rfl rfl  rfl rfl (Nat.le_of_ble_eq_true rfl) dX2_revoke_63 ⟨Nat.le_of_ble_eq_true rfl, Nat.le_of_ble_eq_true rfl⟩ rfl (fun v w hv => ?_)
      obtain ⟨rfl, nb, n2, w2, rfl, hN2, h90⟩ := hv
      refine ⟨rfl, ?_⟩
      refine g_st (st' := [_]) rfl ?_
      refine g_retW X hr (by first | rfl | exact b2i_nar _) dX2_revoke_66 hAe ?_
      exact hPost_eq (by unfold takeS; rw [eN1, if_pos h8, nI_clamp (by omega), if_neg (by rw [e6, h24]; decide), eN2]) hN2 h90
    · replace h24 := b2i_n0 h24
      refine g_bipush (v := ((-5) : Int32)) X dX2_revoke_27 (by decide) rfl ?_
      refine g_retW X hr (by first | rfl | exact b2i_nar _) dX2_revoke_29 hAe ?_
      exact hPost_of (by unfold takeS; rw [eN1, if_pos h8, nI_clamp (by omega), if_pos (by rw [e6, h24]; rfl)]) hNR hn8
  · replace h8 := b2i_0 h8
    refine g_iconst (v := ((-1) : Int32)) X dX2_revoke_11 (by decide) rfl ?_
    refine g_retW X hr (by first | rfl | exact b2i_nar _) dX2_revoke_12 hAe ?_
    exact hPost_of (by unfold takeS; rw [eN1, if_neg (by simp [*])]) hNR hn8

set_option maxHeartbeats 4000000 in
set_option maxRecDepth 100000 in
theorem c_X2_leadDoor (l : Launch) (D : DT) (a : Nat → Nat) (f : Nat → Int32) (na : Nat → Nat → Int32) (w : Nat → Int32) (mk n b : Nat) (hW : WF f mk n b) (hNR : NR f na n) (gv dr sx : Int32) : MW l yX2_leadDoor wsX2_leadDoor 3 67 0 0 D [.ref (a 0), .int gv, .int dr, .int sx] (wHW D a f na w) (hPost D a (doorS f gv dr sx)) := by
  obtain ⟨hmk, h40, hn8, hb0, hb1, hb8, hnb, hst, hno, how, hdo, hs1, hs2, hs3, hZF⟩ := id hW
  have h8 : n ≤ 8 := by omega
  obtain ⟨eN1, eN2, eN3⟩ := hW.N
  refine MW.of (cc := cX2_leadDoor) (maxL := 5) (ret := (some .int)) (lv := [(0, .ref (a 0)), (1, .int gv), (2, .int dr), (3, .int sx)]) (by decide +kernel) rfl (Nat.le_of_ble_eq_true rfl) rfl ?_
  intro p e s m below meth c A hAe hAg X hr hmn
  have hinX20 : ∀ w ∈ wsX20, w ∈ wsX2_leadDoor := fun w h => List.mem_cons_of_mem _ (List.mem_append_left _ (List.mem_append_left _ (List.mem_append_right _ h)))
  have hinX40 : ∀ w ∈ wsX40, w ∈ wsX2_leadDoor := fun w h => List.mem_cons_of_mem _ (List.mem_append_left _ (List.mem_append_right _ h))
  have hinX00 : ∀ w ∈ wsX00, w ∈ wsX2_leadDoor := fun w h => List.mem_cons_of_mem _ (List.mem_append_right _ h)
  have hl35 := List.mem_of_getElem? (l := wsX2_leadDoor) (i := 1) rfl
  have hl15 := List.mem_of_getElem? (l := wsX2_leadDoor) (i := 2) rfl
  have hl42 := List.mem_of_getElem? (l := wsX2_leadDoor) (i := 3) rfl
  refine g_iload_n X dX2_leadDoor_0 rfl 1 rfl rfl ?_
  refine g_iload_n X dX2_leadDoor_1 rfl 2 rfl rfl ?_
  refine g_callSNR (n := 2) (As := [_, _]) (rest := []) X (c_X6_isDoor l D _ _) gX2_leadDoor_X6_isDoor_n134 (List.mem_of_getElem? (i := 5) rfl) (by decide +kernel) (List.mem_of_getElem? (i := 4) rfl) rfl (by decide +kernel) ⟨Nat.le_of_ble_eq_true rfl, Nat.le_of_ble_eq_true rfl⟩ [] rfl rfl rfl rfl (Nat.le_of_ble_eq_true rfl) dX2_leadDoor_2 ⟨Nat.le_of_ble_eq_true rfl, Nat.le_of_ble_eq_true rfl⟩ rfl (fun v hv => ?_)
  obtain rfl := hv
  refine g_st (st' := [_]) rfl ?_
  refine g_if_eq X dX2_leadDoor_5 25 (by decide) rfl (fun h5 => ?_) (fun h5 => ?_)
  · replace h5 := b2i_0 h5
    refine g_iconst (v := ((-1) : Int32)) X dX2_leadDoor_25 (by decide) rfl ?_
    refine g_retW X hr (by first | rfl | exact b2i_nar _) dX2_leadDoor_26 hAe ?_
    exact hPost_of (by unfold doorS; rw [eN1, if_neg (by simp [*])]) hNR hn8
  · replace h5 := b2i_n0 h5
    obtain ⟨hgA, hdA⟩ := Bool.and_eq_true_iff.mp h5
    obtain ⟨gq, hgq, rfl⟩ := rng_nI hgA
    obtain ⟨dq, hdq, rfl⟩ := rng_nI hdA
    refine g_iload_n X dX2_leadDoor_8 rfl 3 rfl rfl ?_
    refine g_bipush (v := ((-6) : Int32)) X dX2_leadDoor_9 (by decide) rfl ?_
    refine g_icmp_eq X dX2_leadDoor_11 27 (by decide) rfl (fun h11 => ?_) (fun h11 => ?_)
    · have hsx : (decide (sx = -6) || rng mk sx) = true := by simp [*]
      have hC : ((rng 6 (nI gq) && rng 10 (nI dq)) && (decide (sx = -6) || rng mk sx)) = true := by rw [hgA, hdA, hsx]; rfl
      have hL : ledM f gq dq = f (16 + (gq * 10 + dq)) := congrArg f (by omega)
      have eix : 16 + 10 * gq + dq = 16 + (gq * 10 + dq) := by omega
      have hn3 : up f (16 + (gq * 10 + dq)) sx 90 = nI n := (up_n _ _ (by omega)).trans hn8
      have hN3 : NR (up f (16 + (gq * 10 + dq)) sx) na n := NR_up hNR (by omega) (by omega)
      refine g_iload_n X dX2_leadDoor_27 rfl 1 rfl rfl ?_
      refine g_bipush (v := (10 : Int32)) X dX2_leadDoor_28 (by decide) rfl ?_
      refine g_imul X dX2_leadDoor_30 rfl ?_
      refine g_topi (y := nI (gq * 10)) (pk_mul (gq) (10)) ?_
      refine g_iload_n X dX2_leadDoor_31 rfl 2 rfl rfl ?_
      refine g_iadd X dX2_leadDoor_32 rfl ?_
      refine g_topi (y := nI ((gq * 10) + dq)) (nI_add ((gq * 10)) (dq)) ?_
      refine g_istore X [(4, _), (0, _), (1, _), (2, _), (3, _)] dX2_leadDoor_33 (by decide) rfl rfl ?_
      refine g_aload_n X dX2_leadDoor_35 rfl 1 rfl rfl ?_
      refine gH_get_House_doors X dX2_leadDoor_36 hinX20 hl15 rfl ?_
      refine g_iload X dX2_leadDoor_39 0 rfl rfl ?_
      refine gS_ld_doors X dX2_leadDoor_41 (by first | rfl | assumption) (by omega) rfl ?_
      refine g_iload_n X dX2_leadDoor_42 rfl 4 rfl rfl ?_
      refine g_icmp_ne X dX2_leadDoor_43 48 (by decide) rfl (fun h43 => ?_) (fun h43 => ?_)
      · refine g_aload_n X dX2_leadDoor_48 rfl 1 rfl rfl ?_
        refine gH_get_House_doors X dX2_leadDoor_49 hinX20 hl15 rfl ?_
        refine g_iload X dX2_leadDoor_52 0 rfl rfl ?_
        refine g_iload_n X dX2_leadDoor_54 rfl 4 rfl rfl ?_
        refine gS_st_doors X rfl dX2_leadDoor_55 (by first | rfl | assumption) (by omega) rfl ?_
        refine g_aload_n X dX2_leadDoor_56 rfl 1 rfl rfl ?_
        refine gH_get_House_board X dX2_leadDoor_57 hinX20 hl42 rfl ?_
        refine g_aload_n X dX2_leadDoor_60 rfl 1 rfl rfl ?_
        refine gH_get_House_board X dX2_leadDoor_61 hinX20 hl42 rfl ?_
        refine g_iload_n X dX2_leadDoor_64 rfl 2 rfl rfl ?_
        refine g_iload_n X dX2_leadDoor_65 rfl 3 rfl rfl ?_
        refine g_callVRsq (n := 2) (As := [_, _]) (rest := [_]) X (c_X0_notesOfDoor l D _ _ _ _ n hn3 h8 hN3 (nI gq) (nI dq)) gX2_leadDoor_X0_notesOfDoor rfl (by decide +kernel) ⟨Nat.le_of_ble_eq_true rfl, Nat.le_of_ble_eq_true rfl⟩ 11 rfl rfl  rfl rfl (Nat.le_of_ble_eq_true rfl) dX2_leadDoor_66 ⟨Nat.le_of_ble_eq_true rfl, Nat.le_of_ble_eq_true rfl⟩ rfl (fun v hv => ?_)
        obtain rfl := hv
        refine g_st (st' := [_, _]) rfl ?_
        refine g_callVWsq (n := 1) (As := [_]) (rest := []) X hAg rfl (c_X0_wipeThese l D _ _ _ _ n hn3 h8 hN3 (ofDoor (up f (16 + (gq * 10 + dq)) sx) (nI gq) (nI dq))) gX2_leadDoor_X0_wipeThese rfl (by decide +kernel) ⟨Nat.le_of_ble_eq_true rfl, Nat.le_of_ble_eq_true rfl⟩ 11 rfl rfl  rfl rfl (Nat.le_of_ble_eq_true rfl) dX2_leadDoor_69 ⟨Nat.le_of_ble_eq_true rfl, Nat.le_of_ble_eq_true rfl⟩ rfl (fun v w hv => ?_)
        obtain ⟨rfl, nb, rfl, hN2⟩ := hv
        refine ⟨rfl, ?_⟩
        refine g_st (st' := [_]) rfl ?_
        refine g_retW X hr (by first | rfl | exact b2i_nar _) dX2_leadDoor_72 hAe ?_
        exact hPost_of (by unfold doorS; rw [eN1, if_pos hC, nI_clamp (by omega), nI_clamp (by omega), if_neg (fun z => h43 (hL.symm.trans z)), eN2, eix]) hN2 (wkF_90 hn3 h8)
      · refine g_iconst (v := (0 : Int32)) X dX2_leadDoor_46 (by decide) rfl ?_
        refine g_retW X hr (by first | rfl | exact b2i_nar _) dX2_leadDoor_47 hAe ?_
        exact hPost_of (by unfold doorS; rw [eN1, if_pos hC, nI_clamp (by omega), nI_clamp (by omega), if_pos (hL.trans h43)]) hNR hn8
    · refine g_aload_n X dX2_leadDoor_14 rfl 0 rfl rfl ?_
      refine gH_get_House_stamps X dX2_leadDoor_15 hinX20 hl35 rfl ?_
      refine g_iload_n X dX2_leadDoor_18 rfl 3 rfl rfl ?_
      refine g_callVRsq (n := 1) (As := [_]) (rest := []) X (c_X4_has l D _ _ _ _ mk hmk h40 _) gX2_leadDoor_X4_has rfl (by decide +kernel) ⟨Nat.le_of_ble_eq_true rfl, Nat.le_of_ble_eq_true rfl⟩ 5 rfl rfl  rfl rfl (Nat.le_of_ble_eq_true rfl) dX2_leadDoor_19 ⟨Nat.le_of_ble_eq_true rfl, Nat.le_of_ble_eq_true rfl⟩ rfl (fun v hv => ?_)
      obtain rfl := hv
      refine g_st (st' := [_]) rfl ?_
      refine g_if_ne X dX2_leadDoor_22 27 (by decide) rfl (fun h22 => ?_) (fun h22 => ?_)
      · replace h22 := b2i_n0 h22
        have hsx : (decide (sx = -6) || rng mk sx) = true := by simp [*]
        have hC : ((rng 6 (nI gq) && rng 10 (nI dq)) && (decide (sx = -6) || rng mk sx)) = true := by rw [hgA, hdA, hsx]; rfl
        have hL : ledM f gq dq = f (16 + (gq * 10 + dq)) := congrArg f (by omega)
        have eix : 16 + 10 * gq + dq = 16 + (gq * 10 + dq) := by omega
        have hn3 : up f (16 + (gq * 10 + dq)) sx 90 = nI n := (up_n _ _ (by omega)).trans hn8
        have hN3 : NR (up f (16 + (gq * 10 + dq)) sx) na n := NR_up hNR (by omega) (by omega)
        refine g_iload_n X dX2_leadDoor_27 rfl 1 rfl rfl ?_
        refine g_bipush (v := (10 : Int32)) X dX2_leadDoor_28 (by decide) rfl ?_
        refine g_imul X dX2_leadDoor_30 rfl ?_
        refine g_topi (y := nI (gq * 10)) (pk_mul (gq) (10)) ?_
        refine g_iload_n X dX2_leadDoor_31 rfl 2 rfl rfl ?_
        refine g_iadd X dX2_leadDoor_32 rfl ?_
        refine g_topi (y := nI ((gq * 10) + dq)) (nI_add ((gq * 10)) (dq)) ?_
        refine g_istore X [(4, _), (0, _), (1, _), (2, _), (3, _)] dX2_leadDoor_33 (by decide) rfl rfl ?_
        refine g_aload_n X dX2_leadDoor_35 rfl 1 rfl rfl ?_
        refine gH_get_House_doors X dX2_leadDoor_36 hinX20 hl15 rfl ?_
        refine g_iload X dX2_leadDoor_39 0 rfl rfl ?_
        refine gS_ld_doors X dX2_leadDoor_41 (by first | rfl | assumption) (by omega) rfl ?_
        refine g_iload_n X dX2_leadDoor_42 rfl 4 rfl rfl ?_
        refine g_icmp_ne X dX2_leadDoor_43 48 (by decide) rfl (fun h43 => ?_) (fun h43 => ?_)
        · refine g_aload_n X dX2_leadDoor_48 rfl 1 rfl rfl ?_
          refine gH_get_House_doors X dX2_leadDoor_49 hinX20 hl15 rfl ?_
          refine g_iload X dX2_leadDoor_52 0 rfl rfl ?_
          refine g_iload_n X dX2_leadDoor_54 rfl 4 rfl rfl ?_
          refine gS_st_doors X rfl dX2_leadDoor_55 (by first | rfl | assumption) (by omega) rfl ?_
          refine g_aload_n X dX2_leadDoor_56 rfl 1 rfl rfl ?_
          refine gH_get_House_board X dX2_leadDoor_57 hinX20 hl42 rfl ?_
          refine g_aload_n X dX2_leadDoor_60 rfl 1 rfl rfl ?_
          refine gH_get_House_board X dX2_leadDoor_61 hinX20 hl42 rfl ?_
          refine g_iload_n X dX2_leadDoor_64 rfl 2 rfl rfl ?_
          refine g_iload_n X dX2_leadDoor_65 rfl 3 rfl rfl ?_
          refine g_callVRsq (n := 2) (As := [_, _]) (rest := [_]) X (c_X0_notesOfDoor l D _ _ _ _ n hn3 h8 hN3 (nI gq) (nI dq)) gX2_leadDoor_X0_notesOfDoor rfl (by decide +kernel) ⟨Nat.le_of_ble_eq_true rfl, Nat.le_of_ble_eq_true rfl⟩ 11 rfl rfl  rfl rfl (Nat.le_of_ble_eq_true rfl) dX2_leadDoor_66 ⟨Nat.le_of_ble_eq_true rfl, Nat.le_of_ble_eq_true rfl⟩ rfl (fun v hv => ?_)
          obtain rfl := hv
          refine g_st (st' := [_, _]) rfl ?_
          refine g_callVWsq (n := 1) (As := [_]) (rest := []) X hAg rfl (c_X0_wipeThese l D _ _ _ _ n hn3 h8 hN3 (ofDoor (up f (16 + (gq * 10 + dq)) sx) (nI gq) (nI dq))) gX2_leadDoor_X0_wipeThese rfl (by decide +kernel) ⟨Nat.le_of_ble_eq_true rfl, Nat.le_of_ble_eq_true rfl⟩ 11 rfl rfl  rfl rfl (Nat.le_of_ble_eq_true rfl) dX2_leadDoor_69 ⟨Nat.le_of_ble_eq_true rfl, Nat.le_of_ble_eq_true rfl⟩ rfl (fun v w hv => ?_)
          obtain ⟨rfl, nb, rfl, hN2⟩ := hv
          refine ⟨rfl, ?_⟩
          refine g_st (st' := [_]) rfl ?_
          refine g_retW X hr (by first | rfl | exact b2i_nar _) dX2_leadDoor_72 hAe ?_
          exact hPost_of (by unfold doorS; rw [eN1, if_pos hC, nI_clamp (by omega), nI_clamp (by omega), if_neg (fun z => h43 (hL.symm.trans z)), eN2, eix]) hN2 (wkF_90 hn3 h8)
        · refine g_iconst (v := (0 : Int32)) X dX2_leadDoor_46 (by decide) rfl ?_
          refine g_retW X hr (by first | rfl | exact b2i_nar _) dX2_leadDoor_47 hAe ?_
          exact hPost_of (by unfold doorS; rw [eN1, if_pos hC, nI_clamp (by omega), nI_clamp (by omega), if_pos (hL.trans h43)]) hNR hn8
      · replace h22 := b2i_0 h22
        refine g_iconst (v := ((-1) : Int32)) X dX2_leadDoor_25 (by decide) rfl ?_
        refine g_retW X hr (by first | rfl | exact b2i_nar _) dX2_leadDoor_26 hAe ?_
        exact hPost_of (by unfold doorS; rw [eN1, if_neg (by simp [*])]) hNR hn8
