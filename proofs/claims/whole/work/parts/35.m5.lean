set_option maxHeartbeats 4000000 in
set_option maxRecDepth 100000 in
theorem c_X7_enter (l : Launch) (D : DT) (a : Nat → Nat) (fa fp fs fv fg fw fd ft fn : Nat → Int32) (p1 pm wk dm sp iw od : Int32) (g : Int32) : MW l yX7_enter wsX7_enter 1 21 0 0 D [.ref (a 0), .int g] (wM D a fa fp fs fv fg fw fd ft fn p1 pm wk dm sp iw od) (fun v w => v = none ∧ w = (wM D a (enF fa g) fp fs fv fg fw fd ft fn p1 pm wk dm sp iw od)) := by
  refine MW.of (cc := cX7_enter) (maxL := 2) (ret := none) (lv := [(0, .ref (a 0)), (1, .int g)]) (by decide +kernel) rfl (Nat.le_of_ble_eq_true rfl) rfl ?_
  intro p e s m below meth c A hAe hAg X hr hmn
  have hinX70 : ∀ w ∈ wsX70, w ∈ wsX7_enter := fun w h => List.mem_cons_of_mem _ (List.mem_append_right _ h)
  have hl7 := List.mem_of_getElem? (l := wsX7_enter) (i := 1) rfl
  refine g_aload_n X dX7_enter_0 rfl 0 rfl rfl ?_
  refine gM_get_at X dX7_enter_1 hinX70 hl7 rfl ?_
  refine g_bipush (v := (77 : Int32)) X dX7_enter_4 (by decide) rfl ?_
  refine gM_ld_at X dX7_enter_6 (k := 77) rfl (by decide) rfl ?_
  refine g_iload_n X dX7_enter_7 rfl 1 rfl rfl ?_
  refine g_icmp_eq X dX7_enter_8 33 (by decide) rfl (fun h8 => ?_) (fun h8 => ?_)
  · refine g_vretW X hr dX7_enter_33 hAe ?_
    exact ⟨rfl, by simp [enF, *]⟩
  · refine g_aload_n X dX7_enter_11 rfl 0 rfl rfl ?_
    refine gM_get_at X dX7_enter_12 hinX70 hl7 rfl ?_
    refine g_bipush (v := (77 : Int32)) X dX7_enter_15 (by decide) rfl ?_
    refine g_iload_n X dX7_enter_17 rfl 1 rfl rfl ?_
    refine gM_st_at X rfl dX7_enter_18 (k := 77) rfl (by decide) rfl ?_
    refine g_aload_n X dX7_enter_19 rfl 0 rfl rfl ?_
    refine gM_get_at X dX7_enter_20 hinX70 hl7 rfl ?_
    refine g_iconst (v := (1 : Int32)) X dX7_enter_23 (by decide) rfl ?_
    refine gM_ld_at X dX7_enter_24 (k := 1) rfl (by decide) rfl ?_
    refine g_topi (up_n fa g (by omega)) ?_
    refine g_if_ne X dX7_enter_25 33 (by decide) rfl (fun h25 => ?_) (fun h25 => ?_)
    · refine g_vretW X hr dX7_enter_33 hAe ?_
      exact ⟨rfl, by simp [enF, *]⟩
    · refine g_aload_n X dX7_enter_28 rfl 0 rfl rfl ?_
      refine g_callVWs (n := 0) (As := []) (rest := []) X hAg rfl (c_X7_wipeAll l D _ _ _ _ _ _ _ _ _ _ _ _ _ _ _ _ _ ) gX7_enter_X7_wipeAll rfl (by decide +kernel) ⟨Nat.le_of_ble_eq_true rfl, Nat.le_of_ble_eq_true rfl⟩ rfl rfl  rfl rfl (Nat.le_of_ble_eq_true rfl) dX7_enter_29 ⟨Nat.le_of_ble_eq_true rfl, Nat.le_of_ble_eq_true rfl⟩ rfl (fun v w hv => ?_)
      obtain ⟨rfl, rfl⟩ := hv
      refine ⟨rfl, ?_⟩
      refine g_st (st' := [_]) rfl ?_
      refine g_pop X dX7_enter_32 rfl rfl ?_
      refine g_vretW X hr dX7_enter_33 hAe ?_
      exact ⟨rfl, by simp [enF, *]⟩

set_option maxHeartbeats 4000000 in
set_option maxRecDepth 100000 in
theorem c_X7_flush (l : Launch) (D : DT) (a : Nat → Nat) (fa fp fs fv fg fw fd ft fn : Nat → Int32) (wk : Int32) (dm : Int32) (sp : Int32) (iw : Int32) (od : Int32) (i1 km : Nat) (hi1 : i1 < 6) (hm : km ≤ 6) (mk nn b : Nat) (hW : WF fa mk nn b) : MW l yX7_flush wsX7_flush 1 22 0 0 D [.ref (a 0)] (wM D a fa fp fs fv fg fw fd ft fn (nI i1) (nI km) wk dm sp iw od) (tryPost D a fp fs fv fd ft fn i1 km dm sp iw od true fa (flushS fa)) := by
  refine MW.of (cc := cX7_flush) (maxL := 1) (ret := (some .int)) (lv := [(0, .ref (a 0))]) (by decide +kernel) rfl (Nat.le_of_ble_eq_true rfl) rfl ?_
  intro p e s m below meth c A hAe hAg X hr hmn
  have hinX70 : ∀ w ∈ wsX70, w ∈ wsX7_flush := fun w h => List.mem_cons_of_mem _ (List.mem_append_right _ h)
  obtain ⟨hmk, h40, hnn, hb0, hb1, hb8, hnb, hst, hnk, how, hdo, hs1, hs2, hs3, hZF⟩ := id hW
  refine g_aload_n X dX7_flush_0 rfl 0 rfl rfl ?_
  refine g_callVWs (n := 0) (As := []) (rest := []) X hAg rfl (c_X7_keep l D _ _ _ _ _ _ _ _ _ _ _ _ _ _ _  i1 km hi1 hm) gX7_flush_X7_keep rfl (by decide +kernel) ⟨Nat.le_of_ble_eq_true rfl, Nat.le_of_ble_eq_true rfl⟩ rfl rfl  rfl rfl (Nat.le_of_ble_eq_true rfl) dX7_flush_1 ⟨Nat.le_of_ble_eq_true rfl, Nat.le_of_ble_eq_true rfl⟩ rfl (fun v w hv => ?_)
  obtain ⟨rfl, rfl⟩ := hv
  refine ⟨rfl, ?_⟩
  refine g_st (st' := []) rfl ?_
  refine g_aload_n X dX7_flush_4 rfl 0 rfl rfl ?_
  refine g_callVWs (n := 0) (As := []) (rest := []) X hAg rfl (c_X7_wipeAll l D _ _ _ _ _ _ _ _ _ _ _ _ _ _ _ _ _ ) gX7_flush_X7_wipeAll rfl (by decide +kernel) ⟨Nat.le_of_ble_eq_true rfl, Nat.le_of_ble_eq_true rfl⟩ rfl rfl  rfl rfl (Nat.le_of_ble_eq_true rfl) dX7_flush_5 ⟨Nat.le_of_ble_eq_true rfl, Nat.le_of_ble_eq_true rfl⟩ rfl (fun v w hv => ?_)
  obtain ⟨rfl, rfl⟩ := hv
  refine ⟨rfl, ?_⟩
  refine g_st (st' := [_]) rfl ?_
  refine g_retW X hr (by first | rfl | exact b2i_nar _) dX7_flush_8 hAe ?_
  exact tryPost_ok (b := true) rfl (by rw [hnn]; exact nI_ge0 (by omega))

set_option maxHeartbeats 4000000 in
set_option maxRecDepth 100000 in
theorem c_X7_seeByNote (l : Launch) (D : DT) (a : Nat → Nat) (fa fp fs fv fg fw fd ft fn : Nat → Int32) (p1 pm wk dm sp iw od : Int32) (nn q : Nat) (hnn : fa 90 = nI nn) (h8 : nn ≤ 8) (hq : q < nn) : MW l yX7_seeByNote wsX7_seeByNote 1 25 0 0 D [.ref (a 0), .int (nI q)] (wM D a fa fp fs fv fg fw fd ft fn p1 pm wk dm sp iw od) (fun v w => v = some (.int 0) ∧ w = (wM D a (seeF fa nn q) fp fs fv fg fw fd ft fn p1 pm wk dm sp iw od)) := by
  refine MW.of (cc := cX7_seeByNote) (maxL := 6) (ret := (some .int)) (lv := [(0, .ref (a 0)), (1, .int (nI q))]) (by decide +kernel) rfl (Nat.le_of_ble_eq_true rfl) rfl ?_
  intro p e s m below meth c A hAe hAg X hr hmn
  have hinX70 : ∀ w ∈ wsX70, w ∈ wsX7_seeByNote := fun w h => List.mem_cons_of_mem _ (List.mem_append_right _ h)
  have hl7 := List.mem_of_getElem? (l := wsX7_seeByNote) (i := 1) rfl
  refine g_aload_n X dX7_seeByNote_0 rfl 0 rfl rfl ?_
  refine g_iload_n X dX7_seeByNote_1 rfl 1 rfl rfl ?_
  refine g_iconst (v := (0 : Int32)) X dX7_seeByNote_2 (by decide) rfl ?_
  refine g_callVRs (n := 2) (As := [_, _]) (rest := []) X (c_X7_ofNote l D _ _ _ _ _ _ _ _ _ _ _ _ _ _ _ _ _  (q) (0) (by omega) (by omega)) gX7_seeByNote_X7_ofNote rfl (by decide +kernel) ⟨Nat.le_of_ble_eq_true rfl, Nat.le_of_ble_eq_true rfl⟩ rfl rfl  rfl rfl (Nat.le_of_ble_eq_true rfl) dX7_seeByNote_3 ⟨Nat.le_of_ble_eq_true rfl, Nat.le_of_ble_eq_true rfl⟩ rfl (fun v hv => ?_)
  obtain rfl := hv
  refine g_st (st' := [_]) rfl ?_
  refine g_istore_n X [(2, _), (0, _), (1, _)] dX7_seeByNote_6 rfl (by decide) rfl rfl ?_
  refine g_aload_n X dX7_seeByNote_7 rfl 1 rfl rfl ?_
  refine g_iload_n X dX7_seeByNote_8 rfl 2 rfl rfl ?_
  refine g_iconst (v := (1 : Int32)) X dX7_seeByNote_9 (by decide) rfl ?_
  refine g_callVRs (n := 2) (As := [_, _]) (rest := []) X (c_X7_ofNote l D _ _ _ _ _ _ _ _ _ _ _ _ _ _ _ _ _  (q) (1) (by omega) (by omega)) gX7_seeByNote_X7_ofNote rfl (by decide +kernel) ⟨Nat.le_of_ble_eq_true rfl, Nat.le_of_ble_eq_true rfl⟩ rfl rfl  rfl rfl (Nat.le_of_ble_eq_true rfl) dX7_seeByNote_10 ⟨Nat.le_of_ble_eq_true rfl, Nat.le_of_ble_eq_true rfl⟩ rfl (fun v hv => ?_)
  obtain rfl := hv
  refine g_st (st' := [_]) rfl ?_
  refine g_istore_n X [(3, _), (2, _), (0, _), (1, _)] dX7_seeByNote_13 rfl (by decide) rfl rfl ?_
  refine g_aload_n X dX7_seeByNote_14 rfl 2 rfl rfl ?_
  refine g_iload_n X dX7_seeByNote_15 rfl 3 rfl rfl ?_
  refine g_iconst (v := (2 : Int32)) X dX7_seeByNote_16 (by decide) rfl ?_
  refine g_callVRs (n := 2) (As := [_, _]) (rest := []) X (c_X7_ofNote l D _ _ _ _ _ _ _ _ _ _ _ _ _ _ _ _ _  (q) (2) (by omega) (by omega)) gX7_seeByNote_X7_ofNote rfl (by decide +kernel) ⟨Nat.le_of_ble_eq_true rfl, Nat.le_of_ble_eq_true rfl⟩ rfl rfl  rfl rfl (Nat.le_of_ble_eq_true rfl) dX7_seeByNote_17 ⟨Nat.le_of_ble_eq_true rfl, Nat.le_of_ble_eq_true rfl⟩ rfl (fun v hv => ?_)
  obtain rfl := hv
  refine g_st (st' := [_]) rfl ?_
  refine g_istore X [(4, _), (3, _), (2, _), (0, _), (1, _)] dX7_seeByNote_20 (by decide) rfl rfl ?_
  refine g_aload_n X dX7_seeByNote_22 rfl 3 rfl rfl ?_
  refine g_iload_n X dX7_seeByNote_23 rfl 4 rfl rfl ?_
  refine g_iconst (v := (3 : Int32)) X dX7_seeByNote_24 (by decide) rfl ?_
  refine g_callVRs (n := 2) (As := [_, _]) (rest := []) X (c_X7_ofNote l D _ _ _ _ _ _ _ _ _ _ _ _ _ _ _ _ _  (q) (3) (by omega) (by omega)) gX7_seeByNote_X7_ofNote rfl (by decide +kernel) ⟨Nat.le_of_ble_eq_true rfl, Nat.le_of_ble_eq_true rfl⟩ rfl rfl  rfl rfl (Nat.le_of_ble_eq_true rfl) dX7_seeByNote_25 ⟨Nat.le_of_ble_eq_true rfl, Nat.le_of_ble_eq_true rfl⟩ rfl (fun v hv => ?_)
  obtain rfl := hv
  refine g_st (st' := [_]) rfl ?_
  refine g_istore X [(5, _), (4, _), (3, _), (2, _), (0, _), (1, _)] dX7_seeByNote_28 (by decide) rfl rfl ?_
  refine g_aload_n X dX7_seeByNote_30 rfl 4 rfl rfl ?_
  refine gM_get_at X dX7_seeByNote_31 hinX70 hl7 rfl ?_
  refine g_bipush (v := (79 : Int32)) X dX7_seeByNote_34 (by decide) rfl ?_
  refine g_dup2 X dX7_seeByNote_36 rfl rfl rfl ?_
  refine gM_ld_at X dX7_seeByNote_37 (k := 79) rfl (by decide) rfl ?_
  refine g_iconst (v := (1 : Int32)) X dX7_seeByNote_38 (by decide) rfl ?_
  refine g_iadd X dX7_seeByNote_39 rfl ?_
  refine gM_st_at X rfl dX7_seeByNote_40 (k := 79) rfl (by decide) rfl ?_
  refine g_aload_n X dX7_seeByNote_41 rfl 4 rfl rfl ?_
  refine gM_get_at X dX7_seeByNote_42 hinX70 hl7 rfl ?_
  refine g_bipush (v := (80 : Int32)) X dX7_seeByNote_45 (by decide) rfl ?_
  refine g_dup2 X dX7_seeByNote_47 rfl rfl rfl ?_
  refine gM_ld_at X dX7_seeByNote_48 (k := 80) rfl (by decide) rfl ?_
  refine g_topi (up_n fa _ (by omega)) ?_
  refine g_iconst (v := (1 : Int32)) X dX7_seeByNote_49 (by decide) rfl ?_
  refine g_iadd X dX7_seeByNote_50 rfl ?_
  refine gM_st_at X rfl dX7_seeByNote_51 (k := 80) rfl (by decide) rfl ?_
  refine g_aload_n X dX7_seeByNote_52 rfl 4 rfl rfl ?_
  refine gM_get_at X dX7_seeByNote_53 hinX70 hl7 rfl ?_
  refine g_bipush (v := (83 : Int32)) X dX7_seeByNote_56 (by decide) rfl ?_
  refine g_dup2 X dX7_seeByNote_58 rfl rfl rfl ?_
  refine gM_ld_at X dX7_seeByNote_59 (k := 83) rfl (by decide) rfl ?_
  refine g_topi ((up_n _ _ (by omega)).trans (up_n fa _ (by omega))) ?_
  refine g_iconst (v := (1 : Int32)) X dX7_seeByNote_60 (by decide) rfl ?_
  refine g_iadd X dX7_seeByNote_61 rfl ?_
  refine gM_st_at X rfl dX7_seeByNote_62 (k := 83) rfl (by decide) rfl ?_
  refine g_aload_n X dX7_seeByNote_63 rfl 4 rfl rfl ?_
  refine gM_get_at X dX7_seeByNote_64 hinX70 hl7 rfl ?_
  refine g_iconst (v := (3 : Int32)) X dX7_seeByNote_67 (by decide) rfl ?_
  refine gM_ld_at X dX7_seeByNote_68 (k := 3) rfl (by decide) rfl ?_
  refine g_topi (y := fa 3) ((up_n _ _ (by omega)).trans ((up_n _ _ (by omega)).trans (up_n fa _ (by omega)))) ?_
  have hse : seF fa 90 = nI nn := by unfold seF; rw [up_n _ _ (by omega), up_n _ _ (by omega), up_n _ _ (by omega)]; exact hnn
  refine g_iconst (v := (1 : Int32)) X dX7_seeByNote_69 (by decide) rfl ?_
  refine g_icmp_ne X dX7_seeByNote_70 88 (by decide) rfl (fun h70 => ?_) (fun h70 => ?_)
  · refine g_iconst (v := (0 : Int32)) X dX7_seeByNote_88 (by decide) rfl ?_
    refine g_retW X hr (by first | rfl | exact b2i_nar _) dX7_seeByNote_89 hAe ?_
    exact ⟨rfl, by first | (rw [seeF, if_pos h70]; rfl) | (rw [seeF, if_neg h70]; rfl)⟩
  · refine g_aload_n X dX7_seeByNote_73 rfl 4 rfl rfl ?_
    refine g_iload_n X dX7_seeByNote_74 rfl 5 rfl rfl ?_
    refine g_callVWs (n := 1) (As := [_]) (rest := []) X hAg rfl (c_X7_takeNote l D _ _ _ _ _ _ _ _ _ _ _ _ _ _ _ _ _  nn q hse (by omega) hq) gX7_seeByNote_X7_takeNote rfl (by decide +kernel) ⟨Nat.le_of_ble_eq_true rfl, Nat.le_of_ble_eq_true rfl⟩ rfl rfl  rfl rfl (Nat.le_of_ble_eq_true rfl) dX7_seeByNote_75 ⟨Nat.le_of_ble_eq_true rfl, Nat.le_of_ble_eq_true rfl⟩ rfl (fun v w hv => ?_)
    obtain ⟨rfl, rfl⟩ := hv
    refine ⟨rfl, ?_⟩
    refine g_st (st' := []) rfl ?_
    refine g_aload_n X dX7_seeByNote_78 rfl 4 rfl rfl ?_
    refine g_iload_n X dX7_seeByNote_79 rfl 3 rfl rfl ?_
    refine g_iload_n X dX7_seeByNote_80 rfl 2 rfl rfl ?_
    refine g_iload X dX7_seeByNote_81 1 rfl rfl ?_
    refine g_iload X dX7_seeByNote_83 0 rfl rfl ?_
    refine g_callVWs (n := 4) (As := [_, _, _, _]) (rest := []) X hAg rfl (c_X7_putNote l D _ _ _ _ _ _ _ _ _ _ _ _ _ _ _ _ _  (nn - 1) tkF_90 (by omega) _ _ _ _) gX7_seeByNote_X7_putNote rfl (by decide +kernel) ⟨Nat.le_of_ble_eq_true rfl, Nat.le_of_ble_eq_true rfl⟩ rfl rfl  rfl rfl (Nat.le_of_ble_eq_true rfl) dX7_seeByNote_85 ⟨Nat.le_of_ble_eq_true rfl, Nat.le_of_ble_eq_true rfl⟩ rfl (fun v w hv => ?_)
    obtain ⟨rfl, rfl⟩ := hv
    refine ⟨rfl, ?_⟩
    refine g_st (st' := []) rfl ?_
    refine g_iconst (v := (0 : Int32)) X dX7_seeByNote_88 (by decide) rfl ?_
    refine g_retW X hr (by first | rfl | exact b2i_nar _) dX7_seeByNote_89 hAe ?_
    exact ⟨rfl, by first | (rw [seeF, if_pos h70]; rfl) | (rw [seeF, if_neg h70]; rfl)⟩

set_option maxHeartbeats 4000000 in
set_option maxRecDepth 100000 in
theorem c_X7_set (l : Launch) (D : DT) (a : Nat → Nat) (fa fp fs fv fg fw fd ft fn : Nat → Int32) (wk : Int32) (dm : Int32) (sp : Int32) (iw : Int32) (od : Int32) (i1 km : Nat) (hi1 : i1 < 6) (hm : km ≤ 6) (mk nn b : Nat) (hW : WF fa mk nn b) (x v : Int32) : MW l yX7_set wsX7_set 2 42 0 0 D [.ref (a 0), .int x, .int v] (wM D a fa fp fs fv fg fw fd ft fn (nI i1) (nI km) wk dm sp iw od) (tryPost D a fp fs fv fd ft fn i1 km dm sp iw od true fa (setS fa x v)) := by
  refine MW.of (cc := cX7_set) (maxL := 5) (ret := (some .int)) (lv := [(0, .ref (a 0)), (1, .int x), (2, .int v)]) (by decide +kernel) rfl (Nat.le_of_ble_eq_true rfl) rfl ?_
  intro p e s m below meth c A hAe hAg X hr hmn
  have hinX70 : ∀ w ∈ wsX70, w ∈ wsX7_set := fun w h => List.mem_cons_of_mem _ (List.mem_append_right _ h)
  have hl7 := List.mem_of_getElem? (l := wsX7_set) (i := 1) rfl
  obtain ⟨hmk, h40, hnn, hb0, hb1, hb8, hnb, hst, hnk, how, hdo, hs1, hs2, hs3, hZF⟩ := id hW
  have hmkN : mkN fa = mk := by unfold mkN; rw [hmk]; exact nI_clamp (by omega)
  have hnN : nN fa = nn := by unfold nN; rw [hnn]; exact nI_clamp (by omega)
  have e03 : decide ((0 : Int) ≤ x.toInt ∧ x.toInt ≤ (3 : Int)) = rng 4 x := by unfold rng; exact decide_eq_decide.mpr ⟨fun h => by omega, fun h => by omega⟩
  refine g_iload_n X dX7_set_0 rfl 1 rfl rfl ?_
  refine g_if_ne X dX7_set_1 9 (by decide) rfl (fun h1 => ?_) (fun h1 => ?_)
  · refine g_iload_n X dX7_set_9 rfl 1 rfl rfl ?_
    refine g_iconst (v := (2 : Int32)) X dX7_set_10 (by decide) rfl ?_
    refine g_icmp_ne X dX7_set_11 18 (by decide) rfl (fun h11 => ?_) (fun h11 => ?_)
    · refine g_iconst (v := (1 : Int32)) X dX7_set_18 (by decide) rfl ?_
      refine g_istore_n X [(3, _), (0, _), (1, _), (2, _)] dX7_set_19 rfl (by decide) rfl rfl ?_
      have L20 : ∀ hi : Int32, hi = hiS x → GG p l e (wRoom 2 42 0 0) s m ([.ref (a 0), .int x, .int v] : List Value).toArray below meth c D A 5 false 0 0 (MQ below (wrQ D (wM D a fa fp fs fv fg fw fd ft fn (nI i1) (nI km) wk dm sp iw od) s.heap.size (tryPost D a fp fs fv fd ft fn i1 km dm sp iw od true fa (setS fa x v))) ([.ref (a 0), .int x, .int v] : List Value).toArray s 0 0 (va_A (wM D a fa fp fs fv fg fw fd ft fn (nI i1) (nI km) wk dm sp iw od) s.heap.size)) (wM D a fa fp fs fv fg fw fd ft fn (nI i1) (nI km) wk dm sp iw od) 20 [(3, .int hi), (0, .ref (a 0)), (1, .int x), (2, .int v)] [] := by
        intro hi hhi
        refine g_iload_n X dX7_set_20 rfl 2 rfl rfl ?_
        refine g_iconst (v := (0 : Int32)) X dX7_set_21 (by decide) rfl ?_
        refine g_iconst (v := (3 : Int32)) X dX7_set_22 (by decide) rfl ?_
        refine g_callSR (n := 3) (As := [_, _, _]) (rest := []) X (c_X7_in l D _ _ _) gX7_set_X7_in rfl (by decide +kernel) ⟨Nat.le_of_ble_eq_true rfl, Nat.le_of_ble_eq_true rfl⟩ [] rfl rfl rfl rfl (Nat.le_of_ble_eq_true rfl) dX7_set_23 ⟨Nat.le_of_ble_eq_true rfl, Nat.le_of_ble_eq_true rfl⟩ rfl (fun v hv => ?_)
        obtain rfl := hv
        refine g_st (st' := [_]) rfl ?_
        refine g_topi (y := b2i (rng 4 x)) (congrArg b2i e03) ?_
        refine g_if_eq X dX7_set_26 46 (by decide) rfl (fun h26 => ?_) (fun h26 => ?_)
        · replace h26 := b2i_0 h26
          refine g_bipush (v := ((-2) : Int32)) X dX7_set_46 (by decide) rfl ?_
          refine g_retW X hr (by first | rfl | exact b2i_nar _) dX7_set_48 hAe ?_
          exact tryPost_err (by unfold setS; rw [if_neg (by first | (rw [h26]; exact Bool.false_ne_true) | (rw [h26, h43]; exact Bool.false_ne_true))]) (by decide)
        · replace h26 := b2i_n0 h26
          refine g_iload_n X dX7_set_29 rfl 3 rfl rfl ?_
          refine g_iload_n X dX7_set_30 rfl 2 rfl rfl ?_
          refine g_if_ne X dX7_set_31 38 (by decide) rfl (fun h31 => ?_) (fun h31 => ?_)
          · refine g_iconst (v := (0 : Int32)) X dX7_set_38 (by decide) rfl ?_
            refine g_iload_n X dX7_set_39 rfl 0 rfl rfl ?_
            refine g_callSR (n := 3) (As := [_, _, _]) (rest := []) X (c_X7_in l D _ _ _) gX7_set_X7_in rfl (by decide +kernel) ⟨Nat.le_of_ble_eq_true rfl, Nat.le_of_ble_eq_true rfl⟩ [] rfl rfl rfl rfl (Nat.le_of_ble_eq_true rfl) dX7_set_40 ⟨Nat.le_of_ble_eq_true rfl, Nat.le_of_ble_eq_true rfl⟩ rfl (fun v hv => ?_)
            obtain rfl := hv
            refine g_st (st' := [_]) rfl ?_
            refine g_topi (y := b2i (decide ((if x = 0 then (1 : Int) else 0) ≤ v.toInt ∧ v.toInt ≤ (hiS x).toInt))) (by subst hhi; first | (rw [if_pos h31]; rfl) | (rw [if_neg h31]; rfl)) ?_
            refine g_if_ne X dX7_set_43 49 (by decide) rfl (fun h43 => ?_) (fun h43 => ?_)
            · replace h43 := b2i_n0 h43
              have hcond : (rng 4 x && decide ((if x = 0 then (1 : Int) else 0) ≤ v.toInt ∧ v.toInt ≤ (hiS x).toInt)) = true := by rw [h26, h43]; rfl
              obtain ⟨q, hq, eqx⟩ := rng_nI h26
              have hcq : x.toNatClampNeg = q := by rw [eqx]; exact nI_clamp (by omega)
              have hnn1 : up fa q v 90 = nI nn := by rw [up_n _ _ (by omega)]; exact hnn
              obtain ⟨b1, hb11, hb1b⟩ : ∃ b1 : Nat, b1 ≤ 8 ∧ up fa q v 0 = nI b1 := set_b hb0 hb8 hq eqx (of_decide_eq_true h43)
              have hbN1 : bN (up fa q v) = b1 := by unfold bN; rw [hb1b]; exact nI_clamp (by omega)
              refine g_aload_n X dX7_set_49 rfl 1 rfl rfl ?_
              refine g_callVWs (n := 0) (As := []) (rest := []) X hAg rfl (c_X7_keep l D _ _ _ _ _ _ _ _ _ _ _ _ _ _ _  i1 km hi1 hm) gX7_set_X7_keep rfl (by decide +kernel) ⟨Nat.le_of_ble_eq_true rfl, Nat.le_of_ble_eq_true rfl⟩ rfl rfl  rfl rfl (Nat.le_of_ble_eq_true rfl) dX7_set_50 ⟨Nat.le_of_ble_eq_true rfl, Nat.le_of_ble_eq_true rfl⟩ rfl (fun v w hv => ?_)
              obtain ⟨rfl, rfl⟩ := hv
              refine ⟨rfl, ?_⟩
              refine g_st (st' := []) rfl ?_
              refine g_aload_n X dX7_set_53 rfl 1 rfl rfl ?_
              refine gM_get_at X dX7_set_54 hinX70 hl7 rfl ?_
              refine g_iload_n X dX7_set_57 rfl 2 rfl rfl ?_
              refine gM_ld_at X dX7_set_58 eqx (by omega) rfl ?_
              refine g_istore X [(4, _), (3, _), (0, _), (1, _), (2, _)] dX7_set_59 (by decide) rfl rfl ?_
              refine g_aload_n X dX7_set_61 rfl 2 rfl rfl ?_
              refine gM_get_at X dX7_set_62 hinX70 hl7 rfl ?_
              refine g_iload_n X dX7_set_65 rfl 3 rfl rfl ?_
              refine g_iload_n X dX7_set_66 rfl 4 rfl rfl ?_
              refine gM_st_at X rfl dX7_set_67 eqx (by omega) rfl ?_
              refine g_aload_n X dX7_set_68 rfl 2 rfl rfl ?_
              refine g_callVWs (n := 0) (As := []) (rest := []) X hAg rfl (c_X7_dropOver l D _ _ _ _ _ _ _ _ _ _ _ _ _ _ _ _ _  nn b1 hnn1 (by omega) hb1b (by omega)) gX7_set_X7_dropOver rfl (by decide +kernel) ⟨Nat.le_of_ble_eq_true rfl, Nat.le_of_ble_eq_true rfl⟩ rfl rfl  rfl rfl (Nat.le_of_ble_eq_true rfl) dX7_set_69 ⟨Nat.le_of_ble_eq_true rfl, Nat.le_of_ble_eq_true rfl⟩ rfl (fun v w hv => ?_)
              obtain ⟨rfl, rfl⟩ := hv
              refine ⟨rfl, ?_⟩
              refine g_st (st' := []) rfl ?_
              refine g_iload X dX7_set_72 0 rfl rfl ?_
              refine g_retW X hr (by first | rfl | exact b2i_nar _) dX7_set_74 hAe ?_
              exact tryPost_ok (b := true) (by unfold setS; rw [if_pos hcond, hcq, hnN, hbN1]) (set_ge hW hq)
            · replace h43 := b2i_0 h43
              refine g_bipush (v := ((-2) : Int32)) X dX7_set_46 (by decide) rfl ?_
              refine g_retW X hr (by first | rfl | exact b2i_nar _) dX7_set_48 hAe ?_
              exact tryPost_err (by unfold setS; rw [if_neg (by first | (rw [h26]; exact Bool.false_ne_true) | (rw [h26, h43]; exact Bool.false_ne_true))]) (by decide)
          · refine g_iconst (v := (1 : Int32)) X dX7_set_34 (by decide) rfl ?_
            refine g_goto X dX7_set_35 39 (by decide) ?_
            refine g_iload_n X dX7_set_39 rfl 0 rfl rfl ?_
            refine g_callSR (n := 3) (As := [_, _, _]) (rest := []) X (c_X7_in l D _ _ _) gX7_set_X7_in rfl (by decide +kernel) ⟨Nat.le_of_ble_eq_true rfl, Nat.le_of_ble_eq_true rfl⟩ [] rfl rfl rfl rfl (Nat.le_of_ble_eq_true rfl) dX7_set_40 ⟨Nat.le_of_ble_eq_true rfl, Nat.le_of_ble_eq_true rfl⟩ rfl (fun v hv => ?_)
            obtain rfl := hv
            refine g_st (st' := [_]) rfl ?_
            refine g_topi (y := b2i (decide ((if x = 0 then (1 : Int) else 0) ≤ v.toInt ∧ v.toInt ≤ (hiS x).toInt))) (by subst hhi; first | (rw [if_pos h31]; rfl) | (rw [if_neg h31]; rfl)) ?_
            refine g_if_ne X dX7_set_43 49 (by decide) rfl (fun h43 => ?_) (fun h43 => ?_)
            · replace h43 := b2i_n0 h43
              have hcond : (rng 4 x && decide ((if x = 0 then (1 : Int) else 0) ≤ v.toInt ∧ v.toInt ≤ (hiS x).toInt)) = true := by rw [h26, h43]; rfl
              obtain ⟨q, hq, eqx⟩ := rng_nI h26
              have hcq : x.toNatClampNeg = q := by rw [eqx]; exact nI_clamp (by omega)
              have hnn1 : up fa q v 90 = nI nn := by rw [up_n _ _ (by omega)]; exact hnn
              obtain ⟨b1, hb11, hb1b⟩ : ∃ b1 : Nat, b1 ≤ 8 ∧ up fa q v 0 = nI b1 := set_b hb0 hb8 hq eqx (of_decide_eq_true h43)
              have hbN1 : bN (up fa q v) = b1 := by unfold bN; rw [hb1b]; exact nI_clamp (by omega)
              refine g_aload_n X dX7_set_49 rfl 1 rfl rfl ?_
              refine g_callVWs (n := 0) (As := []) (rest := []) X hAg rfl (c_X7_keep l D _ _ _ _ _ _ _ _ _ _ _ _ _ _ _  i1 km hi1 hm) gX7_set_X7_keep rfl (by decide +kernel) ⟨Nat.le_of_ble_eq_true rfl, Nat.le_of_ble_eq_true rfl⟩ rfl rfl  rfl rfl (Nat.le_of_ble_eq_true rfl) dX7_set_50 ⟨Nat.le_of_ble_eq_true rfl, Nat.le_of_ble_eq_true rfl⟩ rfl (fun v w hv => ?_)
              obtain ⟨rfl, rfl⟩ := hv
              refine ⟨rfl, ?_⟩
              refine g_st (st' := []) rfl ?_
              refine g_aload_n X dX7_set_53 rfl 1 rfl rfl ?_
              refine gM_get_at X dX7_set_54 hinX70 hl7 rfl ?_
              refine g_iload_n X dX7_set_57 rfl 2 rfl rfl ?_
              refine gM_ld_at X dX7_set_58 eqx (by omega) rfl ?_
              refine g_istore X [(4, _), (3, _), (0, _), (1, _), (2, _)] dX7_set_59 (by decide) rfl rfl ?_
              refine g_aload_n X dX7_set_61 rfl 2 rfl rfl ?_
              refine gM_get_at X dX7_set_62 hinX70 hl7 rfl ?_
              refine g_iload_n X dX7_set_65 rfl 3 rfl rfl ?_
              refine g_iload_n X dX7_set_66 rfl 4 rfl rfl ?_
              refine gM_st_at X rfl dX7_set_67 eqx (by omega) rfl ?_
              refine g_aload_n X dX7_set_68 rfl 2 rfl rfl ?_
              refine g_callVWs (n := 0) (As := []) (rest := []) X hAg rfl (c_X7_dropOver l D _ _ _ _ _ _ _ _ _ _ _ _ _ _ _ _ _  nn b1 hnn1 (by omega) hb1b (by omega)) gX7_set_X7_dropOver rfl (by decide +kernel) ⟨Nat.le_of_ble_eq_true rfl, Nat.le_of_ble_eq_true rfl⟩ rfl rfl  rfl rfl (Nat.le_of_ble_eq_true rfl) dX7_set_69 ⟨Nat.le_of_ble_eq_true rfl, Nat.le_of_ble_eq_true rfl⟩ rfl (fun v w hv => ?_)
              obtain ⟨rfl, rfl⟩ := hv
              refine ⟨rfl, ?_⟩
              refine g_st (st' := []) rfl ?_
              refine g_iload X dX7_set_72 0 rfl rfl ?_
              refine g_retW X hr (by first | rfl | exact b2i_nar _) dX7_set_74 hAe ?_
              exact tryPost_ok (b := true) (by unfold setS; rw [if_pos hcond, hcq, hnN, hbN1]) (set_ge hW hq)
            · replace h43 := b2i_0 h43
              refine g_bipush (v := ((-2) : Int32)) X dX7_set_46 (by decide) rfl ?_
              refine g_retW X hr (by first | rfl | exact b2i_nar _) dX7_set_48 hAe ?_
              exact tryPost_err (by unfold setS; rw [if_neg (by first | (rw [h26]; exact Bool.false_ne_true) | (rw [h26, h43]; exact Bool.false_ne_true))]) (by decide)
      exact L20 _ (by simp [hiS, *])
    · refine g_iconst (v := (2 : Int32)) X dX7_set_14 (by decide) rfl ?_
      refine g_goto X dX7_set_15 19 (by decide) ?_
      refine g_istore_n X [(3, _), (0, _), (1, _), (2, _)] dX7_set_19 rfl (by decide) rfl rfl ?_
      have L20 : ∀ hi : Int32, hi = hiS x → GG p l e (wRoom 2 42 0 0) s m ([.ref (a 0), .int x, .int v] : List Value).toArray below meth c D A 5 false 0 0 (MQ below (wrQ D (wM D a fa fp fs fv fg fw fd ft fn (nI i1) (nI km) wk dm sp iw od) s.heap.size (tryPost D a fp fs fv fd ft fn i1 km dm sp iw od true fa (setS fa x v))) ([.ref (a 0), .int x, .int v] : List Value).toArray s 0 0 (va_A (wM D a fa fp fs fv fg fw fd ft fn (nI i1) (nI km) wk dm sp iw od) s.heap.size)) (wM D a fa fp fs fv fg fw fd ft fn (nI i1) (nI km) wk dm sp iw od) 20 [(3, .int hi), (0, .ref (a 0)), (1, .int x), (2, .int v)] [] := by
        intro hi hhi
        refine g_iload_n X dX7_set_20 rfl 2 rfl rfl ?_
        refine g_iconst (v := (0 : Int32)) X dX7_set_21 (by decide) rfl ?_
        refine g_iconst (v := (3 : Int32)) X dX7_set_22 (by decide) rfl ?_
        refine g_callSR (n := 3) (As := [_, _, _]) (rest := []) X (c_X7_in l D _ _ _) gX7_set_X7_in rfl (by decide +kernel) ⟨Nat.le_of_ble_eq_true rfl, Nat.le_of_ble_eq_true rfl⟩ [] rfl rfl rfl rfl (Nat.le_of_ble_eq_true rfl) dX7_set_23 ⟨Nat.le_of_ble_eq_true rfl, Nat.le_of_ble_eq_true rfl⟩ rfl (fun v hv => ?_)
        obtain rfl := hv
        refine g_st (st' := [_]) rfl ?_
        refine g_topi (y := b2i (rng 4 x)) (congrArg b2i e03) ?_
        refine g_if_eq X dX7_set_26 46 (by decide) rfl (fun h26 => ?_) (fun h26 => ?_)
        · replace h26 := b2i_0 h26
          refine g_bipush (v := ((-2) : Int32)) X dX7_set_46 (by decide) rfl ?_
          refine g_retW X hr (by first | rfl | exact b2i_nar _) dX7_set_48 hAe ?_
          exact tryPost_err (by unfold setS; rw [if_neg (by first | (rw [h26]; exact Bool.false_ne_true) | (rw [h26, h43]; exact Bool.false_ne_true))]) (by decide)
        · replace h26 := b2i_n0 h26
          refine g_iload_n X dX7_set_29 rfl 3 rfl rfl ?_
          refine g_iload_n X dX7_set_30 rfl 2 rfl rfl ?_
          refine g_if_ne X dX7_set_31 38 (by decide) rfl (fun h31 => ?_) (fun h31 => ?_)
          · refine g_iconst (v := (0 : Int32)) X dX7_set_38 (by decide) rfl ?_
            refine g_iload_n X dX7_set_39 rfl 0 rfl rfl ?_
            refine g_callSR (n := 3) (As := [_, _, _]) (rest := []) X (c_X7_in l D _ _ _) gX7_set_X7_in rfl (by decide +kernel) ⟨Nat.le_of_ble_eq_true rfl, Nat.le_of_ble_eq_true rfl⟩ [] rfl rfl rfl rfl (Nat.le_of_ble_eq_true rfl) dX7_set_40 ⟨Nat.le_of_ble_eq_true rfl, Nat.le_of_ble_eq_true rfl⟩ rfl (fun v hv => ?_)
            obtain rfl := hv
            refine g_st (st' := [_]) rfl ?_
            refine g_topi (y := b2i (decide ((if x = 0 then (1 : Int) else 0) ≤ v.toInt ∧ v.toInt ≤ (hiS x).toInt))) (by subst hhi; first | (rw [if_pos h31]; rfl) | (rw [if_neg h31]; rfl)) ?_
            refine g_if_ne X dX7_set_43 49 (by decide) rfl (fun h43 => ?_) (fun h43 => ?_)
            · replace h43 := b2i_n0 h43
              have hcond : (rng 4 x && decide ((if x = 0 then (1 : Int) else 0) ≤ v.toInt ∧ v.toInt ≤ (hiS x).toInt)) = true := by rw [h26, h43]; rfl
              obtain ⟨q, hq, eqx⟩ := rng_nI h26
              have hcq : x.toNatClampNeg = q := by rw [eqx]; exact nI_clamp (by omega)
              have hnn1 : up fa q v 90 = nI nn := by rw [up_n _ _ (by omega)]; exact hnn
              obtain ⟨b1, hb11, hb1b⟩ : ∃ b1 : Nat, b1 ≤ 8 ∧ up fa q v 0 = nI b1 := set_b hb0 hb8 hq eqx (of_decide_eq_true h43)
              have hbN1 : bN (up fa q v) = b1 := by unfold bN; rw [hb1b]; exact nI_clamp (by omega)
              refine g_aload_n X dX7_set_49 rfl 1 rfl rfl ?_
              refine g_callVWs (n := 0) (As := []) (rest := []) X hAg rfl (c_X7_keep l D _ _ _ _ _ _ _ _ _ _ _ _ _ _ _  i1 km hi1 hm) gX7_set_X7_keep rfl (by decide +kernel) ⟨Nat.le_of_ble_eq_true rfl, Nat.le_of_ble_eq_true rfl⟩ rfl rfl  rfl rfl (Nat.le_of_ble_eq_true rfl) dX7_set_50 ⟨Nat.le_of_ble_eq_true rfl, Nat.le_of_ble_eq_true rfl⟩ rfl (fun v w hv => ?_)
              obtain ⟨rfl, rfl⟩ := hv
              refine ⟨rfl, ?_⟩
              refine g_st (st' := []) rfl ?_
              refine g_aload_n X dX7_set_53 rfl 1 rfl rfl ?_
              refine gM_get_at X dX7_set_54 hinX70 hl7 rfl ?_
              refine g_iload_n X dX7_set_57 rfl 2 rfl rfl ?_
              refine gM_ld_at X dX7_set_58 eqx (by omega) rfl ?_
              refine g_istore X [(4, _), (3, _), (0, _), (1, _), (2, _)] dX7_set_59 (by decide) rfl rfl ?_
              refine g_aload_n X dX7_set_61 rfl 2 rfl rfl ?_
              refine gM_get_at X dX7_set_62 hinX70 hl7 rfl ?_
              refine g_iload_n X dX7_set_65 rfl 3 rfl rfl ?_
              refine g_iload_n X dX7_set_66 rfl 4 rfl rfl ?_
              refine gM_st_at X rfl dX7_set_67 eqx (by omega) rfl ?_
              refine g_aload_n X dX7_set_68 rfl 2 rfl rfl ?_
              refine g_callVWs (n := 0) (As := []) (rest := []) X hAg rfl (c_X7_dropOver l D _ _ _ _ _ _ _ _ _ _ _ _ _ _ _ _ _  nn b1 hnn1 (by omega) hb1b (by omega)) gX7_set_X7_dropOver rfl (by decide +kernel) ⟨Nat.le_of_ble_eq_true rfl, Nat.le_of_ble_eq_true rfl⟩ rfl rfl  rfl rfl (Nat.le_of_ble_eq_true rfl) dX7_set_69 ⟨Nat.le_of_ble_eq_true rfl, Nat.le_of_ble_eq_true rfl⟩ rfl (fun v w hv => ?_)
              obtain ⟨rfl, rfl⟩ := hv
              refine ⟨rfl, ?_⟩
              refine g_st (st' := []) rfl ?_
              refine g_iload X dX7_set_72 0 rfl rfl ?_
              refine g_retW X hr (by first | rfl | exact b2i_nar _) dX7_set_74 hAe ?_
              exact tryPost_ok (b := true) (by unfold setS; rw [if_pos hcond, hcq, hnN, hbN1]) (set_ge hW hq)
            · replace h43 := b2i_0 h43
              refine g_bipush (v := ((-2) : Int32)) X dX7_set_46 (by decide) rfl ?_
              refine g_retW X hr (by first | rfl | exact b2i_nar _) dX7_set_48 hAe ?_
              exact tryPost_err (by unfold setS; rw [if_neg (by first | (rw [h26]; exact Bool.false_ne_true) | (rw [h26, h43]; exact Bool.false_ne_true))]) (by decide)
          · refine g_iconst (v := (1 : Int32)) X dX7_set_34 (by decide) rfl ?_
            refine g_goto X dX7_set_35 39 (by decide) ?_
            refine g_iload_n X dX7_set_39 rfl 0 rfl rfl ?_
            refine g_callSR (n := 3) (As := [_, _, _]) (rest := []) X (c_X7_in l D _ _ _) gX7_set_X7_in rfl (by decide +kernel) ⟨Nat.le_of_ble_eq_true rfl, Nat.le_of_ble_eq_true rfl⟩ [] rfl rfl rfl rfl (Nat.le_of_ble_eq_true rfl) dX7_set_40 ⟨Nat.le_of_ble_eq_true rfl, Nat.le_of_ble_eq_true rfl⟩ rfl (fun v hv => ?_)
            obtain rfl := hv
            refine g_st (st' := [_]) rfl ?_
            refine g_topi (y := b2i (decide ((if x = 0 then (1 : Int) else 0) ≤ v.toInt ∧ v.toInt ≤ (hiS x).toInt))) (by subst hhi; first | (rw [if_pos h31]; rfl) | (rw [if_neg h31]; rfl)) ?_
            refine g_if_ne X dX7_set_43 49 (by decide) rfl (fun h43 => ?_) (fun h43 => ?_)
            · replace h43 := b2i_n0 h43
              have hcond : (rng 4 x && decide ((if x = 0 then (1 : Int) else 0) ≤ v.toInt ∧ v.toInt ≤ (hiS x).toInt)) = true := by rw [h26, h43]; rfl
              obtain ⟨q, hq, eqx⟩ := rng_nI h26
              have hcq : x.toNatClampNeg = q := by rw [eqx]; exact nI_clamp (by omega)
              have hnn1 : up fa q v 90 = nI nn := by rw [up_n _ _ (by omega)]; exact hnn
              obtain ⟨b1, hb11, hb1b⟩ : ∃ b1 : Nat, b1 ≤ 8 ∧ up fa q v 0 = nI b1 := set_b hb0 hb8 hq eqx (of_decide_eq_true h43)
              have hbN1 : bN (up fa q v) = b1 := by unfold bN; rw [hb1b]; exact nI_clamp (by omega)
              refine g_aload_n X dX7_set_49 rfl 1 rfl rfl ?_
              refine g_callVWs (n := 0) (As := []) (rest := []) X hAg rfl (c_X7_keep l D _ _ _ _ _ _ _ _ _ _ _ _ _ _ _  i1 km hi1 hm) gX7_set_X7_keep rfl (by decide +kernel) ⟨Nat.le_of_ble_eq_true rfl, Nat.le_of_ble_eq_true rfl⟩ rfl rfl  rfl rfl (Nat.le_of_ble_eq_true rfl) dX7_set_50 ⟨Nat.le_of_ble_eq_true rfl, Nat.le_of_ble_eq_true rfl⟩ rfl (fun v w hv => ?_)
              obtain ⟨rfl, rfl⟩ := hv
              refine ⟨rfl, ?_⟩
              refine g_st (st' := []) rfl ?_
              refine g_aload_n X dX7_set_53 rfl 1 rfl rfl ?_
              refine gM_get_at X dX7_set_54 hinX70 hl7 rfl ?_
              refine g_iload_n X dX7_set_57 rfl 2 rfl rfl ?_
              refine gM_ld_at X dX7_set_58 eqx (by omega) rfl ?_
              refine g_istore X [(4, _), (3, _), (0, _), (1, _), (2, _)] dX7_set_59 (by decide) rfl rfl ?_
              refine g_aload_n X dX7_set_61 rfl 2 rfl rfl ?_
              refine gM_get_at X dX7_set_62 hinX70 hl7 rfl ?_
              refine g_iload_n X dX7_set_65 rfl 3 rfl rfl ?_
              refine g_iload_n X dX7_set_66 rfl 4 rfl rfl ?_
              refine gM_st_at X rfl dX7_set_67 eqx (by omega) rfl ?_
              refine g_aload_n X dX7_set_68 rfl 2 rfl rfl ?_
              refine g_callVWs (n := 0) (As := []) (rest := []) X hAg rfl (c_X7_dropOver l D _ _ _ _ _ _ _ _ _ _ _ _ _ _ _ _ _  nn b1 hnn1 (by omega) hb1b (by omega)) gX7_set_X7_dropOver rfl (by decide +kernel) ⟨Nat.le_of_ble_eq_true rfl, Nat.le_of_ble_eq_true rfl⟩ rfl rfl  rfl rfl (Nat.le_of_ble_eq_true rfl) dX7_set_69 ⟨Nat.le_of_ble_eq_true rfl, Nat.le_of_ble_eq_true rfl⟩ rfl (fun v w hv => ?_)
              obtain ⟨rfl, rfl⟩ := hv
              refine ⟨rfl, ?_⟩
              refine g_st (st' := []) rfl ?_
              refine g_iload X dX7_set_72 0 rfl rfl ?_
              refine g_retW X hr (by first | rfl | exact b2i_nar _) dX7_set_74 hAe ?_
              exact tryPost_ok (b := true) (by unfold setS; rw [if_pos hcond, hcq, hnN, hbN1]) (set_ge hW hq)
            · replace h43 := b2i_0 h43
              refine g_bipush (v := ((-2) : Int32)) X dX7_set_46 (by decide) rfl ?_
              refine g_retW X hr (by first | rfl | exact b2i_nar _) dX7_set_48 hAe ?_
              exact tryPost_err (by unfold setS; rw [if_neg (by first | (rw [h26]; exact Bool.false_ne_true) | (rw [h26, h43]; exact Bool.false_ne_true))]) (by decide)
      exact L20 _ (by simp [hiS, *])
  · refine g_bipush (v := (8 : Int32)) X dX7_set_4 (by decide) rfl ?_
    refine g_goto X dX7_set_6 19 (by decide) ?_
    refine g_istore_n X [(3, _), (0, _), (1, _), (2, _)] dX7_set_19 rfl (by decide) rfl rfl ?_
    have L20 : ∀ hi : Int32, hi = hiS x → GG p l e (wRoom 2 42 0 0) s m ([.ref (a 0), .int x, .int v] : List Value).toArray below meth c D A 5 false 0 0 (MQ below (wrQ D (wM D a fa fp fs fv fg fw fd ft fn (nI i1) (nI km) wk dm sp iw od) s.heap.size (tryPost D a fp fs fv fd ft fn i1 km dm sp iw od true fa (setS fa x v))) ([.ref (a 0), .int x, .int v] : List Value).toArray s 0 0 (va_A (wM D a fa fp fs fv fg fw fd ft fn (nI i1) (nI km) wk dm sp iw od) s.heap.size)) (wM D a fa fp fs fv fg fw fd ft fn (nI i1) (nI km) wk dm sp iw od) 20 [(3, .int hi), (0, .ref (a 0)), (1, .int x), (2, .int v)] [] := by
      intro hi hhi
      refine g_iload_n X dX7_set_20 rfl 2 rfl rfl ?_
      refine g_iconst (v := (0 : Int32)) X dX7_set_21 (by decide) rfl ?_
      refine g_iconst (v := (3 : Int32)) X dX7_set_22 (by decide) rfl ?_
      refine g_callSR (n := 3) (As := [_, _, _]) (rest := []) X (c_X7_in l D _ _ _) gX7_set_X7_in rfl (by decide +kernel) ⟨Nat.le_of_ble_eq_true rfl, Nat.le_of_ble_eq_true rfl⟩ [] rfl rfl rfl rfl (Nat.le_of_ble_eq_true rfl) dX7_set_23 ⟨Nat.le_of_ble_eq_true rfl, Nat.le_of_ble_eq_true rfl⟩ rfl (fun v hv => ?_)
      obtain rfl := hv
      refine g_st (st' := [_]) rfl ?_
      refine g_topi (y := b2i (rng 4 x)) (congrArg b2i e03) ?_
      refine g_if_eq X dX7_set_26 46 (by decide) rfl (fun h26 => ?_) (fun h26 => ?_)
      · replace h26 := b2i_0 h26
        refine g_bipush (v := ((-2) : Int32)) X dX7_set_46 (by decide) rfl ?_
        refine g_retW X hr (by first | rfl | exact b2i_nar _) dX7_set_48 hAe ?_
        exact tryPost_err (by unfold setS; rw [if_neg (by first | (rw [h26]; exact Bool.false_ne_true) | (rw [h26, h43]; exact Bool.false_ne_true))]) (by decide)
      · replace h26 := b2i_n0 h26
        refine g_iload_n X dX7_set_29 rfl 3 rfl rfl ?_
        refine g_iload_n X dX7_set_30 rfl 2 rfl rfl ?_
        refine g_if_ne X dX7_set_31 38 (by decide) rfl (fun h31 => ?_) (fun h31 => ?_)
        · refine g_iconst (v := (0 : Int32)) X dX7_set_38 (by decide) rfl ?_
          refine g_iload_n X dX7_set_39 rfl 0 rfl rfl ?_
          refine g_callSR (n := 3) (As := [_, _, _]) (rest := []) X (c_X7_in l D _ _ _) gX7_set_X7_in rfl (by decide +kernel) ⟨Nat.le_of_ble_eq_true rfl, Nat.le_of_ble_eq_true rfl⟩ [] rfl rfl rfl rfl (Nat.le_of_ble_eq_true rfl) dX7_set_40 ⟨Nat.le_of_ble_eq_true rfl, Nat.le_of_ble_eq_true rfl⟩ rfl (fun v hv => ?_)
          obtain rfl := hv
          refine g_st (st' := [_]) rfl ?_
          refine g_topi (y := b2i (decide ((if x = 0 then (1 : Int) else 0) ≤ v.toInt ∧ v.toInt ≤ (hiS x).toInt))) (by subst hhi; first | (rw [if_pos h31]; rfl) | (rw [if_neg h31]; rfl)) ?_
          refine g_if_ne X dX7_set_43 49 (by decide) rfl (fun h43 => ?_) (fun h43 => ?_)
          · replace h43 := b2i_n0 h43
            have hcond : (rng 4 x && decide ((if x = 0 then (1 : Int) else 0) ≤ v.toInt ∧ v.toInt ≤ (hiS x).toInt)) = true := by rw [h26, h43]; rfl
            obtain ⟨q, hq, eqx⟩ := rng_nI h26
            have hcq : x.toNatClampNeg = q := by rw [eqx]; exact nI_clamp (by omega)
            have hnn1 : up fa q v 90 = nI nn := by rw [up_n _ _ (by omega)]; exact hnn
            obtain ⟨b1, hb11, hb1b⟩ : ∃ b1 : Nat, b1 ≤ 8 ∧ up fa q v 0 = nI b1 := set_b hb0 hb8 hq eqx (of_decide_eq_true h43)
            have hbN1 : bN (up fa q v) = b1 := by unfold bN; rw [hb1b]; exact nI_clamp (by omega)
            refine g_aload_n X dX7_set_49 rfl 1 rfl rfl ?_
            refine g_callVWs (n := 0) (As := []) (rest := []) X hAg rfl (c_X7_keep l D _ _ _ _ _ _ _ _ _ _ _ _ _ _ _  i1 km hi1 hm) gX7_set_X7_keep rfl (by decide +kernel) ⟨Nat.le_of_ble_eq_true rfl, Nat.le_of_ble_eq_true rfl⟩ rfl rfl  rfl rfl (Nat.le_of_ble_eq_true rfl) dX7_set_50 ⟨Nat.le_of_ble_eq_true rfl, Nat.le_of_ble_eq_true rfl⟩ rfl (fun v w hv => ?_)
            obtain ⟨rfl, rfl⟩ := hv
            refine ⟨rfl, ?_⟩
            refine g_st (st' := []) rfl ?_
            refine g_aload_n X dX7_set_53 rfl 1 rfl rfl ?_
            refine gM_get_at X dX7_set_54 hinX70 hl7 rfl ?_
            refine g_iload_n X dX7_set_57 rfl 2 rfl rfl ?_
            refine gM_ld_at X dX7_set_58 eqx (by omega) rfl ?_
            refine g_istore X [(4, _), (3, _), (0, _), (1, _), (2, _)] dX7_set_59 (by decide) rfl rfl ?_
            refine g_aload_n X dX7_set_61 rfl 2 rfl rfl ?_
            refine gM_get_at X dX7_set_62 hinX70 hl7 rfl ?_
            refine g_iload_n X dX7_set_65 rfl 3 rfl rfl ?_
            refine g_iload_n X dX7_set_66 rfl 4 rfl rfl ?_
            refine gM_st_at X rfl dX7_set_67 eqx (by omega) rfl ?_
            refine g_aload_n X dX7_set_68 rfl 2 rfl rfl ?_
            refine g_callVWs (n := 0) (As := []) (rest := []) X hAg rfl (c_X7_dropOver l D _ _ _ _ _ _ _ _ _ _ _ _ _ _ _ _ _  nn b1 hnn1 (by omega) hb1b (by omega)) gX7_set_X7_dropOver rfl (by decide +kernel) ⟨Nat.le_of_ble_eq_true rfl, Nat.le_of_ble_eq_true rfl⟩ rfl rfl  rfl rfl (Nat.le_of_ble_eq_true rfl) dX7_set_69 ⟨Nat.le_of_ble_eq_true rfl, Nat.le_of_ble_eq_true rfl⟩ rfl (fun v w hv => ?_)
            obtain ⟨rfl, rfl⟩ := hv
            refine ⟨rfl, ?_⟩
            refine g_st (st' := []) rfl ?_
            refine g_iload X dX7_set_72 0 rfl rfl ?_
            refine g_retW X hr (by first | rfl | exact b2i_nar _) dX7_set_74 hAe ?_
            exact tryPost_ok (b := true) (by unfold setS; rw [if_pos hcond, hcq, hnN, hbN1]) (set_ge hW hq)
          · replace h43 := b2i_0 h43
            refine g_bipush (v := ((-2) : Int32)) X dX7_set_46 (by decide) rfl ?_
            refine g_retW X hr (by first | rfl | exact b2i_nar _) dX7_set_48 hAe ?_
            exact tryPost_err (by unfold setS; rw [if_neg (by first | (rw [h26]; exact Bool.false_ne_true) | (rw [h26, h43]; exact Bool.false_ne_true))]) (by decide)
        · refine g_iconst (v := (1 : Int32)) X dX7_set_34 (by decide) rfl ?_
          refine g_goto X dX7_set_35 39 (by decide) ?_
          refine g_iload_n X dX7_set_39 rfl 0 rfl rfl ?_
          refine g_callSR (n := 3) (As := [_, _, _]) (rest := []) X (c_X7_in l D _ _ _) gX7_set_X7_in rfl (by decide +kernel) ⟨Nat.le_of_ble_eq_true rfl, Nat.le_of_ble_eq_true rfl⟩ [] rfl rfl rfl rfl (Nat.le_of_ble_eq_true rfl) dX7_set_40 ⟨Nat.le_of_ble_eq_true rfl, Nat.le_of_ble_eq_true rfl⟩ rfl (fun v hv => ?_)
          obtain rfl := hv
          refine g_st (st' := [_]) rfl ?_
          refine g_topi (y := b2i (decide ((if x = 0 then (1 : Int) else 0) ≤ v.toInt ∧ v.toInt ≤ (hiS x).toInt))) (by subst hhi; first | (rw [if_pos h31]; rfl) | (rw [if_neg h31]; rfl)) ?_
          refine g_if_ne X dX7_set_43 49 (by decide) rfl (fun h43 => ?_) (fun h43 => ?_)
          · replace h43 := b2i_n0 h43
            have hcond : (rng 4 x && decide ((if x = 0 then (1 : Int) else 0) ≤ v.toInt ∧ v.toInt ≤ (hiS x).toInt)) = true := by rw [h26, h43]; rfl
            obtain ⟨q, hq, eqx⟩ := rng_nI h26
            have hcq : x.toNatClampNeg = q := by rw [eqx]; exact nI_clamp (by omega)
            have hnn1 : up fa q v 90 = nI nn := by rw [up_n _ _ (by omega)]; exact hnn
            obtain ⟨b1, hb11, hb1b⟩ : ∃ b1 : Nat, b1 ≤ 8 ∧ up fa q v 0 = nI b1 := set_b hb0 hb8 hq eqx (of_decide_eq_true h43)
            have hbN1 : bN (up fa q v) = b1 := by unfold bN; rw [hb1b]; exact nI_clamp (by omega)
            refine g_aload_n X dX7_set_49 rfl 1 rfl rfl ?_
            refine g_callVWs (n := 0) (As := []) (rest := []) X hAg rfl (c_X7_keep l D _ _ _ _ _ _ _ _ _ _ _ _ _ _ _  i1 km hi1 hm) gX7_set_X7_keep rfl (by decide +kernel) ⟨Nat.le_of_ble_eq_true rfl, Nat.le_of_ble_eq_true rfl⟩ rfl rfl  rfl rfl (Nat.le_of_ble_eq_true rfl) dX7_set_50 ⟨Nat.le_of_ble_eq_true rfl, Nat.le_of_ble_eq_true rfl⟩ rfl (fun v w hv => ?_)
            obtain ⟨rfl, rfl⟩ := hv
            refine ⟨rfl, ?_⟩
            refine g_st (st' := []) rfl ?_
            refine g_aload_n X dX7_set_53 rfl 1 rfl rfl ?_
            refine gM_get_at X dX7_set_54 hinX70 hl7 rfl ?_
            refine g_iload_n X dX7_set_57 rfl 2 rfl rfl ?_
            refine gM_ld_at X dX7_set_58 eqx (by omega) rfl ?_
            refine g_istore X [(4, _), (3, _), (0, _), (1, _), (2, _)] dX7_set_59 (by decide) rfl rfl ?_
            refine g_aload_n X dX7_set_61 rfl 2 rfl rfl ?_
            refine gM_get_at X dX7_set_62 hinX70 hl7 rfl ?_
            refine g_iload_n X dX7_set_65 rfl 3 rfl rfl ?_
            refine g_iload_n X dX7_set_66 rfl 4 rfl rfl ?_
            refine gM_st_at X rfl dX7_set_67 eqx (by omega) rfl ?_
            refine g_aload_n X dX7_set_68 rfl 2 rfl rfl ?_
            refine g_callVWs (n := 0) (As := []) (rest := []) X hAg rfl (c_X7_dropOver l D _ _ _ _ _ _ _ _ _ _ _ _ _ _ _ _ _  nn b1 hnn1 (by omega) hb1b (by omega)) gX7_set_X7_dropOver rfl (by decide +kernel) ⟨Nat.le_of_ble_eq_true rfl, Nat.le_of_ble_eq_true rfl⟩ rfl rfl  rfl rfl (Nat.le_of_ble_eq_true rfl) dX7_set_69 ⟨Nat.le_of_ble_eq_true rfl, Nat.le_of_ble_eq_true rfl⟩ rfl (fun v w hv => ?_)
            obtain ⟨rfl, rfl⟩ := hv
            refine ⟨rfl, ?_⟩
            refine g_st (st' := []) rfl ?_
            refine g_iload X dX7_set_72 0 rfl rfl ?_
            refine g_retW X hr (by first | rfl | exact b2i_nar _) dX7_set_74 hAe ?_
            exact tryPost_ok (b := true) (by unfold setS; rw [if_pos hcond, hcq, hnN, hbN1]) (set_ge hW hq)
          · replace h43 := b2i_0 h43
            refine g_bipush (v := ((-2) : Int32)) X dX7_set_46 (by decide) rfl ?_
            refine g_retW X hr (by first | rfl | exact b2i_nar _) dX7_set_48 hAe ?_
            exact tryPost_err (by unfold setS; rw [if_neg (by first | (rw [h26]; exact Bool.false_ne_true) | (rw [h26, h43]; exact Bool.false_ne_true))]) (by decide)
    exact L20 _ (by simp [hiS, *])

set_option maxHeartbeats 4000000 in
set_option maxRecDepth 100000 in
theorem c_X7_tryCome (l : Launch) (D : DT) (a : Nat → Nat) (fa fp fs fv fg fw fd ft fn : Nat → Int32) (wk : Int32) (dm : Int32) (sp : Int32) (iw : Int32) (od : Int32) (i1 km : Nat) (hi1 : i1 < 6) (hm : km ≤ 6) (mk nn b : Nat) (hW : WF fa mk nn b) (g d nd : Int32) (bk : Bool) : MW l yX7_tryCome wsX7_tryCome 4 95 0 0 D [.ref (a 0), .int g, .int d, .int nd, .int (b2i bk)] (wM D a fa fp fs fv fg fw fd ft fn (nI i1) (nI km) wk dm sp iw od) (tryPost D a fp fs fv fd ft fn i1 km dm sp iw od bk fa (comeS fa g d nd)) := by
  refine MW.of (cc := cX7_tryCome) (maxL := 7) (ret := (some .int)) (lv := [(0, .ref (a 0)), (1, .int g), (2, .int d), (3, .int nd), (4, .int (b2i bk))]) (by decide +kernel) rfl (Nat.le_of_ble_eq_true rfl) rfl ?_
  intro p e s m below meth c A hAe hAg X hr hmn
  have hinX70 : ∀ w ∈ wsX70, w ∈ wsX7_tryCome := fun w h => List.mem_cons_of_mem _ (List.mem_append_right _ h)
  have hl7 := List.mem_of_getElem? (l := wsX7_tryCome) (i := 1) rfl
  have hl66 := List.mem_of_getElem? (l := wsX7_tryCome) (i := 2) rfl
  obtain ⟨hmk, h40, hnn, hb0, hb1, hb8, hnb, hst, hnk, how, hdo, hs1, hs2, hs3, hZF⟩ := id hW
  have hmkN : mkN fa = mk := by unfold mkN; rw [hmk]; exact nI_clamp (by omega)
  have hnN : nN fa = nn := by unfold nN; rw [hnn]; exact nI_clamp (by omega)
  refine g_iload_n X dX7_tryCome_0 rfl 1 rfl rfl ?_
  refine g_iload_n X dX7_tryCome_1 rfl 2 rfl rfl ?_
  refine g_callSR (n := 2) (As := [_, _]) (rest := []) X (c_X7_isDoor l D _ _) gX7_tryCome_X7_isDoor rfl (by decide +kernel) ⟨Nat.le_of_ble_eq_true rfl, Nat.le_of_ble_eq_true rfl⟩ [] rfl rfl rfl rfl (Nat.le_of_ble_eq_true rfl) dX7_tryCome_2 ⟨Nat.le_of_ble_eq_true rfl, Nat.le_of_ble_eq_true rfl⟩ rfl (fun v hv => ?_)
  obtain rfl := hv
  refine g_st (st' := [_]) rfl ?_
  refine g_if_ne X dX7_tryCome_5 10 (by decide) rfl (fun h5 => ?_) (fun h5 => ?_)
  · replace h5 := b2i_n0 h5
    refine g_iload_n X dX7_tryCome_10 rfl 3 rfl rfl ?_
    refine g_iconst (v := (1 : Int32)) X dX7_tryCome_11 (by decide) rfl ?_
    refine g_icmp_eq X dX7_tryCome_12 23 (by decide) rfl (fun h12 => ?_) (fun h12 => ?_)
    · obtain ⟨gq, hgq, egq⟩ := rng_nI (Bool.and_eq_true_iff.mp h5).1
      obtain ⟨dq, hdq, edq⟩ := rng_nI (Bool.and_eq_true_iff.mp h5).2
      subst egq; subst edq
      have hcg := nI_clamp (n := gq) (by omega)
      have hcd := nI_clamp (n := dq) (by omega)
      have hnd : nd = 1 ∨ nd = 2 := by first | exact Or.inl h12 | exact Or.inr h17
      refine g_aload_n X dX7_tryCome_23 rfl 0 rfl rfl ?_
      refine g_iload X dX7_tryCome_24 4 rfl rfl ?_
      refine g_callVWs (n := 1) (As := [_]) (rest := []) X hAg rfl (c_X7_keepIf l D _ _ _ _ _ _ _ _ _ _ _ _ _ _ _  i1 km hi1 hm bk) gX7_tryCome_X7_keepIf rfl (by decide +kernel) ⟨Nat.le_of_ble_eq_true rfl, Nat.le_of_ble_eq_true rfl⟩ rfl rfl  rfl rfl (Nat.le_of_ble_eq_true rfl) dX7_tryCome_26 ⟨Nat.le_of_ble_eq_true rfl, Nat.le_of_ble_eq_true rfl⟩ rfl (fun v w hv => ?_)
      obtain ⟨rfl, rfl⟩ := hv
      refine ⟨rfl, ?_⟩
      refine g_st (st' := []) rfl ?_
      refine g_aload_n X dX7_tryCome_29 rfl 0 rfl rfl ?_
      refine gM_get_at X dX7_tryCome_30 hinX70 hl7 rfl ?_
      refine g_bipush (v := (78 : Int32)) X dX7_tryCome_33 (by decide) rfl ?_
      refine g_dup2 X dX7_tryCome_35 rfl rfl rfl ?_
      refine gM_ld_at X dX7_tryCome_36 (k := 78) rfl (by decide) rfl ?_
      refine g_iconst (v := (1 : Int32)) X dX7_tryCome_37 (by decide) rfl ?_
      refine g_iadd X dX7_tryCome_38 rfl ?_
      refine gM_st_at X rfl dX7_tryCome_39 (k := 78) rfl (by decide) rfl ?_
      refine g_aload_n X dX7_tryCome_40 rfl 0 rfl rfl ?_
      refine g_iload_n X dX7_tryCome_41 rfl 1 rfl rfl ?_
      refine g_callVWs (n := 1) (As := [_]) (rest := []) X hAg rfl (c_X7_enter l D _ _ _ _ _ _ _ _ _ _ _ _ _ _ _ _ _  _) gX7_tryCome_X7_enter rfl (by decide +kernel) ⟨Nat.le_of_ble_eq_true rfl, Nat.le_of_ble_eq_true rfl⟩ rfl rfl  rfl rfl (Nat.le_of_ble_eq_true rfl) dX7_tryCome_42 ⟨Nat.le_of_ble_eq_true rfl, Nat.le_of_ble_eq_true rfl⟩ rfl (fun v w hv => ?_)
      obtain ⟨rfl, rfl⟩ := hv
      refine ⟨rfl, ?_⟩
      refine g_st (st' := []) rfl ?_
      obtain ⟨n2, hn2, hle2, hmk2, hb2, hst2, hdo2⟩ : ∃ n2, (cmF fa (nI gq)) 90 = nI n2 ∧ n2 ≤ nn ∧ (cmF fa (nI gq)) 76 = nI mk ∧ (cmF fa (nI gq)) 0 = nI b ∧ (∀ s, s < mk → stOK (cmF fa (nI gq)) s) ∧ (∀ k, k < 60 → (cmF fa (nI gq)) (16 + k) = -6 ∨ ∃ s : Nat, s < mk ∧ (cmF fa (nI gq)) (16 + k) = nI s) := cmF_ok hW (nI gq)
      refine g_ws (ws' := (wM D a (cmF fa (nI gq)) (kF bk fa fp i1 km) fs fv fg fw fd ft fn (nI (kA bk i1 km)) (nI (kM bk km)) wk dm sp iw od)) rfl ?_
      have hC : comeS fa (nI gq) (nI dq) nd = comeW (cmF fa (nI gq)) gq dq nd := by unfold comeS; rw [if_pos h5, if_pos hnd, hcg, hcd]
      have hn2N : nN (cmF fa (nI gq)) = n2 := by unfold nN; rw [hn2]; exact nI_clamp (by omega)
      have hb2N : bN (cmF fa (nI gq)) = b := by unfold bN; rw [hb2]; exact nI_clamp (by omega)
      have hld2 : ledM (cmF fa (nI gq)) gq dq = -6 ∨ ∃ s : Nat, s < mk ∧ ledM (cmF fa (nI gq)) gq dq = nI s := hdo2 (10 * gq + dq) (by omega)
      refine g_aload_n X dX7_tryCome_45 rfl 0 rfl rfl ?_
      refine g_iload_n X dX7_tryCome_46 rfl 1 rfl rfl ?_
      refine g_iload_n X dX7_tryCome_47 rfl 2 rfl rfl ?_
      refine g_iload_n X dX7_tryCome_48 rfl 3 rfl rfl ?_
      refine g_callVRs (n := 3) (As := [_, _, _]) (rest := []) X (c_X7_findNote l D _ _ _ _ _ _ _ _ _ _ _ _ _ _ _ _ _  n2 hn2 (by omega) _ _ _) gX7_tryCome_X7_findNote rfl (by decide +kernel) ⟨Nat.le_of_ble_eq_true rfl, Nat.le_of_ble_eq_true rfl⟩ rfl rfl  rfl rfl (Nat.le_of_ble_eq_true rfl) dX7_tryCome_49 ⟨Nat.le_of_ble_eq_true rfl, Nat.le_of_ble_eq_true rfl⟩ rfl (fun v hv => ?_)
      obtain rfl := hv
      refine g_st (st' := [_]) rfl ?_
      refine g_istore X [(5, _), (0, _), (1, _), (2, _), (3, _), (4, _)] dX7_tryCome_52 (by decide) rfl rfl ?_
      refine g_iload X dX7_tryCome_54 0 rfl rfl ?_
      refine g_if_lt X dX7_tryCome_56 66 (by decide) rfl (fun h56 => ?_) (fun h56 => ?_)
      · have i56 : _ < (0 : Int) := ic_lt h56
        refine g_aload_n X dX7_tryCome_66 rfl 1 rfl rfl ?_
        refine g_iload_n X dX7_tryCome_67 rfl 2 rfl rfl ?_
        refine g_iload_n X dX7_tryCome_68 rfl 3 rfl rfl ?_
        refine g_iload_n X dX7_tryCome_69 rfl 4 rfl rfl ?_
        refine g_callVWs (n := 3) (As := [_, _, _]) (rest := []) X hAg rfl (c_X7_reasonOf l D _ _ _ _ _ _ _ _ _ _ _ _ _ _ _ _ _  mk h40 hst2 gq dq hgq hdq nd hld2) gX7_tryCome_X7_reasonOf rfl (by decide +kernel) ⟨Nat.le_of_ble_eq_true rfl, Nat.le_of_ble_eq_true rfl⟩ rfl rfl  rfl rfl (Nat.le_of_ble_eq_true rfl) dX7_tryCome_70 ⟨Nat.le_of_ble_eq_true rfl, Nat.le_of_ble_eq_true rfl⟩ rfl (fun v w hv => ?_)
        obtain ⟨rfl, rfl⟩ := hv
        refine ⟨rfl, ?_⟩
        refine g_st (st' := [_]) rfl ?_
        refine g_istore X [(6, _), (5, _), (0, _), (1, _), (2, _), (3, _), (4, _)] dX7_tryCome_73 (by decide) rfl rfl ?_
        obtain ⟨⟨rr, hrr, err⟩, hk41⟩ := wlk_le (cmF fa (nI gq)) gq dq nd
        have hcr : (wlk (cmF fa (nI gq)) gq dq nd).1.toNatClampNeg = rr := by rw [err]; exact nI_clamp (by omega)
        refine g_aload_n X dX7_tryCome_75 rfl 2 rfl rfl ?_
        refine gM_get_at X dX7_tryCome_76 hinX70 hl7 rfl ?_
        refine g_bipush (v := (80 : Int32)) X dX7_tryCome_79 (by decide) rfl ?_
        refine g_dup2 X dX7_tryCome_81 rfl rfl rfl ?_
        refine gM_ld_at X dX7_tryCome_82 (k := 80) rfl (by decide) rfl ?_
        refine g_aload_n X dX7_tryCome_83 rfl 2 rfl rfl ?_
        refine gM_get_walked X dX7_tryCome_84 hinX70 hl66 rfl ?_
        refine g_iadd X dX7_tryCome_87 rfl ?_
        refine gM_st_at X rfl dX7_tryCome_88 (k := 80) rfl (by decide) rfl ?_
        refine g_aload_n X dX7_tryCome_89 rfl 2 rfl rfl ?_
        refine gM_get_at X dX7_tryCome_90 hinX70 hl7 rfl ?_
        refine g_bipush (v := (83 : Int32)) X dX7_tryCome_93 (by decide) rfl ?_
        refine g_iload X dX7_tryCome_95 0 rfl rfl ?_
        refine g_iadd X dX7_tryCome_97 rfl ?_
        refine g_topi (y := nI (83 + rr)) (by rw [err]; exact nI_add 83 rr) ?_
        refine g_dup2 X dX7_tryCome_98 rfl rfl rfl ?_
        refine gM_ld_at X dX7_tryCome_99 (by first | rfl | assumption) (by omega) rfl ?_
        refine g_topi (up_n _ _ (by omega)) ?_
        refine g_iconst (v := (1 : Int32)) X dX7_tryCome_100 (by decide) rfl ?_
        refine g_iadd X dX7_tryCome_101 rfl ?_
        refine gM_st_at X rfl dX7_tryCome_102 (by first | rfl | assumption) (by omega) rfl ?_
        refine g_ws (ws' := (wM D a (wrF (cmF fa (nI gq)) (wlk (cmF fa (nI gq)) gq dq nd).1 (wlk (cmF fa (nI gq)) gq dq nd).2) (kF bk fa fp i1 km) fs fv fg fw fd ft fn (nI (kA bk i1 km)) (nI (kM bk km)) (nI (wlk (cmF fa (nI gq)) gq dq nd).2) dm sp iw od)) (by unfold wrF; rw [hcr]) ?_
        have hwl : ∀ m, m < 80 → (wrF (cmF fa (nI gq)) (wlk (cmF fa (nI gq)) gq dq nd).1 (wlk (cmF fa (nI gq)) gq dq nd).2) m = (cmF fa (nI gq)) m := fun m hm => by unfold wrF; rw [up_n _ _ (by omega), up_n _ _ (by omega)]
        have hwh : ∀ m, 90 ≤ m → (wrF (cmF fa (nI gq)) (wlk (cmF fa (nI gq)) gq dq nd).1 (wlk (cmF fa (nI gq)) gq dq nd).2) m = (cmF fa (nI gq)) m := fun m hm => by unfold wrF; rw [up_n _ _ (by omega), up_n _ _ (by omega)]
        refine g_iload X dX7_tryCome_103 0 rfl rfl ?_
        refine g_if_ne X dX7_tryCome_105 130 (by decide) rfl (fun h105 => ?_) (fun h105 => ?_)
        · refine g_iload X dX7_tryCome_130 0 rfl rfl ?_
          refine g_retW X hr (by first | rfl | exact b2i_nar _) dX7_tryCome_132 hAe ?_
          refine tryPost_ok (b := bk) ?_ (by rw [err]; exact nI_ge0 (by omega))
          rw [hC]
          unfold comeW
          first
          | rw [hn2N, if_neg (Int32.not_le.mpr h56), if_neg h105]
          | rw [hn2N, hb2N, hct, if_neg (Int32.not_le.mpr h56), if_pos h105]
        · obtain ⟨t, ht, et⟩ := hld2.resolve_left (fun e => absurd (by rw [e]; decide) (wlk_0 h105))
          have hct : (ledM (cmF fa (nI gq)) gq dq).toNatClampNeg = t := by rw [et]; exact nI_clamp (by omega)
          have hn3 : (wrF (cmF fa (nI gq)) (wlk (cmF fa (nI gq)) gq dq nd).1 (wlk (cmF fa (nI gq)) gq dq nd).2) 90 = nI n2 := by rw [hwh 90 (by omega)]; exact hn2
          have hn4 : ∀ v1, pnF (wrF (cmF fa (nI gq)) (wlk (cmF fa (nI gq)) gq dq nd).1 (wlk (cmF fa (nI gq)) gq dq nd).2) n2 (nI gq) (nI dq) nd v1 90 = nI (n2 + 1) := fun v1 => up_s _ _ _
          have hb4 : ∀ v1, pnF (wrF (cmF fa (nI gq)) (wlk (cmF fa (nI gq)) gq dq nd).1 (wlk (cmF fa (nI gq)) gq dq nd).2) n2 (nI gq) (nI dq) nd v1 0 = nI b := fun v1 => by unfold pnF; rw [up_n _ _ (by omega), up_n _ _ (by omega), up_n _ _ (by omega), up_n _ _ (by omega), up_n _ _ (by omega), hwl 0 (by omega)]; exact hb2
          refine g_aload_n X dX7_tryCome_108 rfl 2 rfl rfl ?_
          refine g_iload_n X dX7_tryCome_109 rfl 3 rfl rfl ?_
          refine g_iload_n X dX7_tryCome_110 rfl 4 rfl rfl ?_
          refine g_iload_n X dX7_tryCome_111 rfl 5 rfl rfl ?_
          refine g_aload_n X dX7_tryCome_112 rfl 2 rfl rfl ?_
          refine g_aload_n X dX7_tryCome_113 rfl 2 rfl rfl ?_
          refine g_iload_n X dX7_tryCome_114 rfl 3 rfl rfl ?_
          refine g_iload_n X dX7_tryCome_115 rfl 4 rfl rfl ?_
          refine g_callVRs (n := 2) (As := [_, _]) (rest := [_, _, _, _, _]) X (c_X7_leadsBy l D _ _ _ _ _ _ _ _ _ _ _ _ _ _ _ _ _  (gq) (dq) (by omega) (by omega)) gX7_tryCome_X7_leadsBy rfl (by decide +kernel) ⟨Nat.le_of_ble_eq_true rfl, Nat.le_of_ble_eq_true rfl⟩ rfl rfl  rfl rfl (Nat.le_of_ble_eq_true rfl) dX7_tryCome_116 ⟨Nat.le_of_ble_eq_true rfl, Nat.le_of_ble_eq_true rfl⟩ rfl (fun v hv => ?_)
          obtain rfl := hv
          refine g_st (st' := [_, _, _, _, _, _]) rfl ?_
          refine g_topi ((hwl _ (by omega)).trans et) ?_
          refine g_iconst (v := (0 : Int32)) X dX7_tryCome_119 (by decide) rfl ?_
          refine g_callVRs (n := 2) (As := [_, _]) (rest := [_, _, _, _]) X (c_X7_of l D _ _ _ _ _ _ _ _ _ _ _ _ _ _ _ _ _  (t) (0) (by omega) (by omega)) gX7_tryCome_X7_of rfl (by decide +kernel) ⟨Nat.le_of_ble_eq_true rfl, Nat.le_of_ble_eq_true rfl⟩ rfl rfl  rfl rfl (Nat.le_of_ble_eq_true rfl) dX7_tryCome_120 ⟨Nat.le_of_ble_eq_true rfl, Nat.le_of_ble_eq_true rfl⟩ rfl (fun v hv => ?_)
          obtain rfl := hv
          refine g_st (st' := [_, _, _, _, _]) rfl ?_
          refine g_topi (y := ofM (cmF fa (nI gq)) t 0) (hwh _ (by omega)) ?_
          refine g_callVWs (n := 4) (As := [_, _, _, _]) (rest := []) X hAg rfl (c_X7_putNote l D _ _ _ _ _ _ _ _ _ _ _ _ _ _ _ _ _  n2 hn3 (by omega) _ _ _ _) gX7_tryCome_X7_putNote rfl (by decide +kernel) ⟨Nat.le_of_ble_eq_true rfl, Nat.le_of_ble_eq_true rfl⟩ rfl rfl  rfl rfl (Nat.le_of_ble_eq_true rfl) dX7_tryCome_123 ⟨Nat.le_of_ble_eq_true rfl, Nat.le_of_ble_eq_true rfl⟩ rfl (fun v w hv => ?_)
          obtain ⟨rfl, rfl⟩ := hv
          refine ⟨rfl, ?_⟩
          refine g_st (st' := []) rfl ?_
          refine g_aload_n X dX7_tryCome_126 rfl 2 rfl rfl ?_
          refine g_callVWs (n := 0) (As := []) (rest := []) X hAg rfl (c_X7_dropOver l D _ _ _ _ _ _ _ _ _ _ _ _ _ _ _ _ _  (n2 + 1) b (hn4 _) (by omega) (hb4 _) (by omega)) gX7_tryCome_X7_dropOver rfl (by decide +kernel) ⟨Nat.le_of_ble_eq_true rfl, Nat.le_of_ble_eq_true rfl⟩ rfl rfl  rfl rfl (Nat.le_of_ble_eq_true rfl) dX7_tryCome_127 ⟨Nat.le_of_ble_eq_true rfl, Nat.le_of_ble_eq_true rfl⟩ rfl (fun v w hv => ?_)
          obtain ⟨rfl, rfl⟩ := hv
          refine ⟨rfl, ?_⟩
          refine g_st (st' := []) rfl ?_
          refine g_iload X dX7_tryCome_130 0 rfl rfl ?_
          refine g_retW X hr (by first | rfl | exact b2i_nar _) dX7_tryCome_132 hAe ?_
          refine tryPost_ok (b := bk) ?_ (by rw [err]; exact nI_ge0 (by omega))
          rw [hC]
          unfold comeW
          first
          | rw [hn2N, if_neg (Int32.not_le.mpr h56), if_neg h105]
          | rw [hn2N, hb2N, hct, if_neg (Int32.not_le.mpr h56), if_pos h105]
      · have i56 : (0 : Int) ≤ _ := ic_nlt h56
        obtain ⟨k2, hk2, ek2⟩ := fndI_in n2 0 h56
        rw [ek2]
        refine g_aload_n X dX7_tryCome_59 rfl 1 rfl rfl ?_
        refine g_iload X dX7_tryCome_60 0 rfl rfl ?_
        refine g_callVWs (n := 1) (As := [_]) (rest := []) X hAg rfl (c_X7_seeByNote l D _ _ _ _ _ _ _ _ _ _ _ _ _ _ _ _ _  n2 k2 hn2 (by omega) (by omega)) gX7_tryCome_X7_seeByNote rfl (by decide +kernel) ⟨Nat.le_of_ble_eq_true rfl, Nat.le_of_ble_eq_true rfl⟩ rfl rfl  rfl rfl (Nat.le_of_ble_eq_true rfl) dX7_tryCome_62 ⟨Nat.le_of_ble_eq_true rfl, Nat.le_of_ble_eq_true rfl⟩ rfl (fun v w hv => ?_)
        obtain ⟨rfl, rfl⟩ := hv
        refine ⟨rfl, ?_⟩
        refine g_st (st' := [_]) rfl ?_
        refine g_retW X hr (by first | rfl | exact b2i_nar _) dX7_tryCome_65 hAe ?_
        refine tryPost_ok (b := bk) ?_ (by decide)
        rw [hC]
        unfold comeW
        rw [hn2N, ek2, if_pos (nI_ge0 (by omega)), nI_clamp (by omega)]
    · refine g_iload_n X dX7_tryCome_15 rfl 3 rfl rfl ?_
      refine g_iconst (v := (2 : Int32)) X dX7_tryCome_16 (by decide) rfl ?_
      refine g_icmp_eq X dX7_tryCome_17 23 (by decide) rfl (fun h17 => ?_) (fun h17 => ?_)
      · obtain ⟨gq, hgq, egq⟩ := rng_nI (Bool.and_eq_true_iff.mp h5).1
        obtain ⟨dq, hdq, edq⟩ := rng_nI (Bool.and_eq_true_iff.mp h5).2
        subst egq; subst edq
        have hcg := nI_clamp (n := gq) (by omega)
        have hcd := nI_clamp (n := dq) (by omega)
        have hnd : nd = 1 ∨ nd = 2 := by first | exact Or.inl h12 | exact Or.inr h17
        refine g_aload_n X dX7_tryCome_23 rfl 0 rfl rfl ?_
        refine g_iload X dX7_tryCome_24 4 rfl rfl ?_
        refine g_callVWs (n := 1) (As := [_]) (rest := []) X hAg rfl (c_X7_keepIf l D _ _ _ _ _ _ _ _ _ _ _ _ _ _ _  i1 km hi1 hm bk) gX7_tryCome_X7_keepIf rfl (by decide +kernel) ⟨Nat.le_of_ble_eq_true rfl, Nat.le_of_ble_eq_true rfl⟩ rfl rfl  rfl rfl (Nat.le_of_ble_eq_true rfl) dX7_tryCome_26 ⟨Nat.le_of_ble_eq_true rfl, Nat.le_of_ble_eq_true rfl⟩ rfl (fun v w hv => ?_)
        obtain ⟨rfl, rfl⟩ := hv
        refine ⟨rfl, ?_⟩
        refine g_st (st' := []) rfl ?_
        refine g_aload_n X dX7_tryCome_29 rfl 0 rfl rfl ?_
        refine gM_get_at X dX7_tryCome_30 hinX70 hl7 rfl ?_
        refine g_bipush (v := (78 : Int32)) X dX7_tryCome_33 (by decide) rfl ?_
        refine g_dup2 X dX7_tryCome_35 rfl rfl rfl ?_
        refine gM_ld_at X dX7_tryCome_36 (k := 78) rfl (by decide) rfl ?_
        refine g_iconst (v := (1 : Int32)) X dX7_tryCome_37 (by decide) rfl ?_
        refine g_iadd X dX7_tryCome_38 rfl ?_
        refine gM_st_at X rfl dX7_tryCome_39 (k := 78) rfl (by decide) rfl ?_
        refine g_aload_n X dX7_tryCome_40 rfl 0 rfl rfl ?_
        refine g_iload_n X dX7_tryCome_41 rfl 1 rfl rfl ?_
        refine g_callVWs (n := 1) (As := [_]) (rest := []) X hAg rfl (c_X7_enter l D _ _ _ _ _ _ _ _ _ _ _ _ _ _ _ _ _  _) gX7_tryCome_X7_enter rfl (by decide +kernel) ⟨Nat.le_of_ble_eq_true rfl, Nat.le_of_ble_eq_true rfl⟩ rfl rfl  rfl rfl (Nat.le_of_ble_eq_true rfl) dX7_tryCome_42 ⟨Nat.le_of_ble_eq_true rfl, Nat.le_of_ble_eq_true rfl⟩ rfl (fun v w hv => ?_)
        obtain ⟨rfl, rfl⟩ := hv
        refine ⟨rfl, ?_⟩
        refine g_st (st' := []) rfl ?_
        obtain ⟨n2, hn2, hle2, hmk2, hb2, hst2, hdo2⟩ : ∃ n2, (cmF fa (nI gq)) 90 = nI n2 ∧ n2 ≤ nn ∧ (cmF fa (nI gq)) 76 = nI mk ∧ (cmF fa (nI gq)) 0 = nI b ∧ (∀ s, s < mk → stOK (cmF fa (nI gq)) s) ∧ (∀ k, k < 60 → (cmF fa (nI gq)) (16 + k) = -6 ∨ ∃ s : Nat, s < mk ∧ (cmF fa (nI gq)) (16 + k) = nI s) := cmF_ok hW (nI gq)
        refine g_ws (ws' := (wM D a (cmF fa (nI gq)) (kF bk fa fp i1 km) fs fv fg fw fd ft fn (nI (kA bk i1 km)) (nI (kM bk km)) wk dm sp iw od)) rfl ?_
        have hC : comeS fa (nI gq) (nI dq) nd = comeW (cmF fa (nI gq)) gq dq nd := by unfold comeS; rw [if_pos h5, if_pos hnd, hcg, hcd]
        have hn2N : nN (cmF fa (nI gq)) = n2 := by unfold nN; rw [hn2]; exact nI_clamp (by omega)
        have hb2N : bN (cmF fa (nI gq)) = b := by unfold bN; rw [hb2]; exact nI_clamp (by omega)
        have hld2 : ledM (cmF fa (nI gq)) gq dq = -6 ∨ ∃ s : Nat, s < mk ∧ ledM (cmF fa (nI gq)) gq dq = nI s := hdo2 (10 * gq + dq) (by omega)
        refine g_aload_n X dX7_tryCome_45 rfl 0 rfl rfl ?_
        refine g_iload_n X dX7_tryCome_46 rfl 1 rfl rfl ?_
        refine g_iload_n X dX7_tryCome_47 rfl 2 rfl rfl ?_
        refine g_iload_n X dX7_tryCome_48 rfl 3 rfl rfl ?_
        refine g_callVRs (n := 3) (As := [_, _, _]) (rest := []) X (c_X7_findNote l D _ _ _ _ _ _ _ _ _ _ _ _ _ _ _ _ _  n2 hn2 (by omega) _ _ _) gX7_tryCome_X7_findNote rfl (by decide +kernel) ⟨Nat.le_of_ble_eq_true rfl, Nat.le_of_ble_eq_true rfl⟩ rfl rfl  rfl rfl (Nat.le_of_ble_eq_true rfl) dX7_tryCome_49 ⟨Nat.le_of_ble_eq_true rfl, Nat.le_of_ble_eq_true rfl⟩ rfl (fun v hv => ?_)
        obtain rfl := hv
        refine g_st (st' := [_]) rfl ?_
        refine g_istore X [(5, _), (0, _), (1, _), (2, _), (3, _), (4, _)] dX7_tryCome_52 (by decide) rfl rfl ?_
        refine g_iload X dX7_tryCome_54 0 rfl rfl ?_
        refine g_if_lt X dX7_tryCome_56 66 (by decide) rfl (fun h56 => ?_) (fun h56 => ?_)
        · have i56 : _ < (0 : Int) := ic_lt h56
          refine g_aload_n X dX7_tryCome_66 rfl 1 rfl rfl ?_
          refine g_iload_n X dX7_tryCome_67 rfl 2 rfl rfl ?_
          refine g_iload_n X dX7_tryCome_68 rfl 3 rfl rfl ?_
          refine g_iload_n X dX7_tryCome_69 rfl 4 rfl rfl ?_
          refine g_callVWs (n := 3) (As := [_, _, _]) (rest := []) X hAg rfl (c_X7_reasonOf l D _ _ _ _ _ _ _ _ _ _ _ _ _ _ _ _ _  mk h40 hst2 gq dq hgq hdq nd hld2) gX7_tryCome_X7_reasonOf rfl (by decide +kernel) ⟨Nat.le_of_ble_eq_true rfl, Nat.le_of_ble_eq_true rfl⟩ rfl rfl  rfl rfl (Nat.le_of_ble_eq_true rfl) dX7_tryCome_70 ⟨Nat.le_of_ble_eq_true rfl, Nat.le_of_ble_eq_true rfl⟩ rfl (fun v w hv => ?_)
          obtain ⟨rfl, rfl⟩ := hv
          refine ⟨rfl, ?_⟩
          refine g_st (st' := [_]) rfl ?_
          refine g_istore X [(6, _), (5, _), (0, _), (1, _), (2, _), (3, _), (4, _)] dX7_tryCome_73 (by decide) rfl rfl ?_
          obtain ⟨⟨rr, hrr, err⟩, hk41⟩ := wlk_le (cmF fa (nI gq)) gq dq nd
          have hcr : (wlk (cmF fa (nI gq)) gq dq nd).1.toNatClampNeg = rr := by rw [err]; exact nI_clamp (by omega)
          refine g_aload_n X dX7_tryCome_75 rfl 2 rfl rfl ?_
          refine gM_get_at X dX7_tryCome_76 hinX70 hl7 rfl ?_
          refine g_bipush (v := (80 : Int32)) X dX7_tryCome_79 (by decide) rfl ?_
          refine g_dup2 X dX7_tryCome_81 rfl rfl rfl ?_
          refine gM_ld_at X dX7_tryCome_82 (k := 80) rfl (by decide) rfl ?_
          refine g_aload_n X dX7_tryCome_83 rfl 2 rfl rfl ?_
          refine gM_get_walked X dX7_tryCome_84 hinX70 hl66 rfl ?_
          refine g_iadd X dX7_tryCome_87 rfl ?_
          refine gM_st_at X rfl dX7_tryCome_88 (k := 80) rfl (by decide) rfl ?_
          refine g_aload_n X dX7_tryCome_89 rfl 2 rfl rfl ?_
          refine gM_get_at X dX7_tryCome_90 hinX70 hl7 rfl ?_
          refine g_bipush (v := (83 : Int32)) X dX7_tryCome_93 (by decide) rfl ?_
          refine g_iload X dX7_tryCome_95 0 rfl rfl ?_
          refine g_iadd X dX7_tryCome_97 rfl ?_
          refine g_topi (y := nI (83 + rr)) (by rw [err]; exact nI_add 83 rr) ?_
          refine g_dup2 X dX7_tryCome_98 rfl rfl rfl ?_
          refine gM_ld_at X dX7_tryCome_99 (by first | rfl | assumption) (by omega) rfl ?_
          refine g_topi (up_n _ _ (by omega)) ?_
          refine g_iconst (v := (1 : Int32)) X dX7_tryCome_100 (by decide) rfl ?_
          refine g_iadd X dX7_tryCome_101 rfl ?_
          refine gM_st_at X rfl dX7_tryCome_102 (by first | rfl | assumption) (by omega) rfl ?_
          refine g_ws (ws' := (wM D a (wrF (cmF fa (nI gq)) (wlk (cmF fa (nI gq)) gq dq nd).1 (wlk (cmF fa (nI gq)) gq dq nd).2) (kF bk fa fp i1 km) fs fv fg fw fd ft fn (nI (kA bk i1 km)) (nI (kM bk km)) (nI (wlk (cmF fa (nI gq)) gq dq nd).2) dm sp iw od)) (by unfold wrF; rw [hcr]) ?_
          have hwl : ∀ m, m < 80 → (wrF (cmF fa (nI gq)) (wlk (cmF fa (nI gq)) gq dq nd).1 (wlk (cmF fa (nI gq)) gq dq nd).2) m = (cmF fa (nI gq)) m := fun m hm => by unfold wrF; rw [up_n _ _ (by omega), up_n _ _ (by omega)]
          have hwh : ∀ m, 90 ≤ m → (wrF (cmF fa (nI gq)) (wlk (cmF fa (nI gq)) gq dq nd).1 (wlk (cmF fa (nI gq)) gq dq nd).2) m = (cmF fa (nI gq)) m := fun m hm => by unfold wrF; rw [up_n _ _ (by omega), up_n _ _ (by omega)]
          refine g_iload X dX7_tryCome_103 0 rfl rfl ?_
          refine g_if_ne X dX7_tryCome_105 130 (by decide) rfl (fun h105 => ?_) (fun h105 => ?_)
          · refine g_iload X dX7_tryCome_130 0 rfl rfl ?_
            refine g_retW X hr (by first | rfl | exact b2i_nar _) dX7_tryCome_132 hAe ?_
            refine tryPost_ok (b := bk) ?_ (by rw [err]; exact nI_ge0 (by omega))
            rw [hC]
            unfold comeW
            first
            | rw [hn2N, if_neg (Int32.not_le.mpr h56), if_neg h105]
            | rw [hn2N, hb2N, hct, if_neg (Int32.not_le.mpr h56), if_pos h105]
          · obtain ⟨t, ht, et⟩ := hld2.resolve_left (fun e => absurd (by rw [e]; decide) (wlk_0 h105))
            have hct : (ledM (cmF fa (nI gq)) gq dq).toNatClampNeg = t := by rw [et]; exact nI_clamp (by omega)
            have hn3 : (wrF (cmF fa (nI gq)) (wlk (cmF fa (nI gq)) gq dq nd).1 (wlk (cmF fa (nI gq)) gq dq nd).2) 90 = nI n2 := by rw [hwh 90 (by omega)]; exact hn2
            have hn4 : ∀ v1, pnF (wrF (cmF fa (nI gq)) (wlk (cmF fa (nI gq)) gq dq nd).1 (wlk (cmF fa (nI gq)) gq dq nd).2) n2 (nI gq) (nI dq) nd v1 90 = nI (n2 + 1) := fun v1 => up_s _ _ _
            have hb4 : ∀ v1, pnF (wrF (cmF fa (nI gq)) (wlk (cmF fa (nI gq)) gq dq nd).1 (wlk (cmF fa (nI gq)) gq dq nd).2) n2 (nI gq) (nI dq) nd v1 0 = nI b := fun v1 => by unfold pnF; rw [up_n _ _ (by omega), up_n _ _ (by omega), up_n _ _ (by omega), up_n _ _ (by omega), up_n _ _ (by omega), hwl 0 (by omega)]; exact hb2
            refine g_aload_n X dX7_tryCome_108 rfl 2 rfl rfl ?_
            refine g_iload_n X dX7_tryCome_109 rfl 3 rfl rfl ?_
            refine g_iload_n X dX7_tryCome_110 rfl 4 rfl rfl ?_
            refine g_iload_n X dX7_tryCome_111 rfl 5 rfl rfl ?_
            refine g_aload_n X dX7_tryCome_112 rfl 2 rfl rfl ?_
            refine g_aload_n X dX7_tryCome_113 rfl 2 rfl rfl ?_
            refine g_iload_n X dX7_tryCome_114 rfl 3 rfl rfl ?_
            refine g_iload_n X dX7_tryCome_115 rfl 4 rfl rfl ?_
            refine g_callVRs (n := 2) (As := [_, _]) (rest := [_, _, _, _, _]) X (c_X7_leadsBy l D _ _ _ _ _ _ _ _ _ _ _ _ _ _ _ _ _  (gq) (dq) (by omega) (by omega)) gX7_tryCome_X7_leadsBy rfl (by decide +kernel) ⟨Nat.le_of_ble_eq_true rfl, Nat.le_of_ble_eq_true rfl⟩ rfl rfl  rfl rfl (Nat.le_of_ble_eq_true rfl) dX7_tryCome_116 ⟨Nat.le_of_ble_eq_true rfl, Nat.le_of_ble_eq_true rfl⟩ rfl (fun v hv => ?_)
            obtain rfl := hv
            refine g_st (st' := [_, _, _, _, _, _]) rfl ?_
            refine g_topi ((hwl _ (by omega)).trans et) ?_
            refine g_iconst (v := (0 : Int32)) X dX7_tryCome_119 (by decide) rfl ?_
            refine g_callVRs (n := 2) (As := [_, _]) (rest := [_, _, _, _]) X (c_X7_of l D _ _ _ _ _ _ _ _ _ _ _ _ _ _ _ _ _  (t) (0) (by omega) (by omega)) gX7_tryCome_X7_of rfl (by decide +kernel) ⟨Nat.le_of_ble_eq_true rfl, Nat.le_of_ble_eq_true rfl⟩ rfl rfl  rfl rfl (Nat.le_of_ble_eq_true rfl) dX7_tryCome_120 ⟨Nat.le_of_ble_eq_true rfl, Nat.le_of_ble_eq_true rfl⟩ rfl (fun v hv => ?_)
            obtain rfl := hv
            refine g_st (st' := [_, _, _, _, _]) rfl ?_
            refine g_topi (y := ofM (cmF fa (nI gq)) t 0) (hwh _ (by omega)) ?_
            refine g_callVWs (n := 4) (As := [_, _, _, _]) (rest := []) X hAg rfl (c_X7_putNote l D _ _ _ _ _ _ _ _ _ _ _ _ _ _ _ _ _  n2 hn3 (by omega) _ _ _ _) gX7_tryCome_X7_putNote rfl (by decide +kernel) ⟨Nat.le_of_ble_eq_true rfl, Nat.le_of_ble_eq_true rfl⟩ rfl rfl  rfl rfl (Nat.le_of_ble_eq_true rfl) dX7_tryCome_123 ⟨Nat.le_of_ble_eq_true rfl, Nat.le_of_ble_eq_true rfl⟩ rfl (fun v w hv => ?_)
            obtain ⟨rfl, rfl⟩ := hv
            refine ⟨rfl, ?_⟩
            refine g_st (st' := []) rfl ?_
            refine g_aload_n X dX7_tryCome_126 rfl 2 rfl rfl ?_
            refine g_callVWs (n := 0) (As := []) (rest := []) X hAg rfl (c_X7_dropOver l D _ _ _ _ _ _ _ _ _ _ _ _ _ _ _ _ _  (n2 + 1) b (hn4 _) (by omega) (hb4 _) (by omega)) gX7_tryCome_X7_dropOver rfl (by decide +kernel) ⟨Nat.le_of_ble_eq_true rfl, Nat.le_of_ble_eq_true rfl⟩ rfl rfl  rfl rfl (Nat.le_of_ble_eq_true rfl) dX7_tryCome_127 ⟨Nat.le_of_ble_eq_true rfl, Nat.le_of_ble_eq_true rfl⟩ rfl (fun v w hv => ?_)
            obtain ⟨rfl, rfl⟩ := hv
            refine ⟨rfl, ?_⟩
            refine g_st (st' := []) rfl ?_
            refine g_iload X dX7_tryCome_130 0 rfl rfl ?_
            refine g_retW X hr (by first | rfl | exact b2i_nar _) dX7_tryCome_132 hAe ?_
            refine tryPost_ok (b := bk) ?_ (by rw [err]; exact nI_ge0 (by omega))
            rw [hC]
            unfold comeW
            first
            | rw [hn2N, if_neg (Int32.not_le.mpr h56), if_neg h105]
            | rw [hn2N, hb2N, hct, if_neg (Int32.not_le.mpr h56), if_pos h105]
        · have i56 : (0 : Int) ≤ _ := ic_nlt h56
          obtain ⟨k2, hk2, ek2⟩ := fndI_in n2 0 h56
          rw [ek2]
          refine g_aload_n X dX7_tryCome_59 rfl 1 rfl rfl ?_
          refine g_iload X dX7_tryCome_60 0 rfl rfl ?_
          refine g_callVWs (n := 1) (As := [_]) (rest := []) X hAg rfl (c_X7_seeByNote l D _ _ _ _ _ _ _ _ _ _ _ _ _ _ _ _ _  n2 k2 hn2 (by omega) (by omega)) gX7_tryCome_X7_seeByNote rfl (by decide +kernel) ⟨Nat.le_of_ble_eq_true rfl, Nat.le_of_ble_eq_true rfl⟩ rfl rfl  rfl rfl (Nat.le_of_ble_eq_true rfl) dX7_tryCome_62 ⟨Nat.le_of_ble_eq_true rfl, Nat.le_of_ble_eq_true rfl⟩ rfl (fun v w hv => ?_)
          obtain ⟨rfl, rfl⟩ := hv
          refine ⟨rfl, ?_⟩
          refine g_st (st' := [_]) rfl ?_
          refine g_retW X hr (by first | rfl | exact b2i_nar _) dX7_tryCome_65 hAe ?_
          refine tryPost_ok (b := bk) ?_ (by decide)
          rw [hC]
          unfold comeW
          rw [hn2N, ek2, if_pos (nI_ge0 (by omega)), nI_clamp (by omega)]
      · refine g_bipush (v := ((-2) : Int32)) X dX7_tryCome_20 (by decide) rfl ?_
        refine g_retW X hr (by first | rfl | exact b2i_nar _) dX7_tryCome_22 hAe ?_
        exact tryPost_err (by unfold comeS; rw [if_pos h5, if_neg (by rintro (h | h); exact h12 h; exact h17 h)]) (by decide)
  · replace h5 := b2i_0 h5
    refine g_iconst (v := ((-1) : Int32)) X dX7_tryCome_8 (by decide) rfl ?_
    refine g_retW X hr (by first | rfl | exact b2i_nar _) dX7_tryCome_9 hAe ?_
    exact tryPost_err (by first | (simp [comeS, rtOK, *]; done) | (simp_all [comeS, rtOK]; done)) (by decide)

set_option maxHeartbeats 4000000 in
set_option maxRecDepth 100000 in
theorem c_X7_come (l : Launch) (D : DT) (a : Nat → Nat) (fa fp fs fv fg fw fd ft fn : Nat → Int32) (wk : Int32) (dm : Int32) (sp : Int32) (iw : Int32) (od : Int32) (i1 km : Nat) (hi1 : i1 < 6) (hm : km ≤ 6) (mk nn b : Nat) (hW : WF fa mk nn b) (g d nd : Int32) : MW l yX7_come wsX7_come 5 121 0 0 D [.ref (a 0), .int g, .int d, .int nd] (wM D a fa fp fs fv fg fw fd ft fn (nI i1) (nI km) wk dm sp iw od) (tryPost D a fp fs fv fd ft fn i1 km dm sp iw od true fa (comeS fa g d nd)) := by
  refine MW.of (cc := cX7_come) (maxL := 4) (ret := (some .int)) (lv := [(0, .ref (a 0)), (1, .int g), (2, .int d), (3, .int nd)]) (by decide +kernel) rfl (Nat.le_of_ble_eq_true rfl) rfl ?_
  intro p e s m below meth c A hAe hAg X hr hmn
  have hinX70 : ∀ w ∈ wsX70, w ∈ wsX7_come := fun w h => List.mem_cons_of_mem _ (List.mem_append_right _ h)
  refine g_aload_n X dX7_come_0 rfl 0 rfl rfl ?_
  refine g_iload_n X dX7_come_1 rfl 1 rfl rfl ?_
  refine g_iload_n X dX7_come_2 rfl 2 rfl rfl ?_
  refine g_iload_n X dX7_come_3 rfl 3 rfl rfl ?_
  refine g_iconst (v := (1 : Int32)) X dX7_come_4 (by decide) rfl ?_
  refine g_callVWs (n := 4) (As := [_, _, _, _]) (rest := []) X hAg rfl (c_X7_tryCome l D _ _ _ _ _ _ _ _ _ _ _ _ _ _ _  i1 km hi1 hm mk nn b hW g d nd true) gX7_come_X7_tryCome rfl (by decide +kernel) ⟨Nat.le_of_ble_eq_true rfl, Nat.le_of_ble_eq_true rfl⟩ rfl rfl  rfl rfl (Nat.le_of_ble_eq_true rfl) dX7_come_5 ⟨Nat.le_of_ble_eq_true rfl, Nat.le_of_ble_eq_true rfl⟩ rfl (fun v w hv => ?_)
  obtain ⟨fg1, fw1, wk1, rfl, rfl⟩ := hv
  refine ⟨rfl, ?_⟩
  refine g_st (st' := [_]) rfl ?_
  refine g_retW X hr (by first | rfl | exact b2i_nar _) dX7_come_8 hAe ?_
  exact ⟨fg1, fw1, wk1, rfl, rfl⟩
