theorem ix_4 {x : Int32} {p : Nat} (h : x = nI p) : (4 : Int32) + x = nI (4 + p) := by rw [h]; exact nI_add 4 p

set_option maxHeartbeats 4000000 in
set_option maxRecDepth 100000 in
theorem c_X7_make (l : Launch) (D : DT) (a : Nat → Nat) (fa fp fs fv fg fw fd ft fn : Nat → Int32) (p1 pm wk dm sp iw od : Int32) (mk : Nat) (hmk : fa 76 = nI mk) (h40 : mk < 40) (gv hd pg rt ro fo : Int32) : MW l yX7_make wsX7_make 0 0 0 0 D [.ref (a 0), .int gv, .int hd, .int pg, .int rt, .int ro, .int fo] (wM D a fa fp fs fv fg fw fd ft fn p1 pm wk dm sp iw od) (fun v w => v = some (.int (nI mk)) ∧ w = (wM D a (mkF fa mk gv hd pg rt ro fo) fp fs fv fg fw fd ft fn p1 pm wk dm sp iw od)) := by
  refine MW.of (cc := cX7_make) (maxL := 8) (ret := (some .int)) (lv := [(0, .ref (a 0)), (1, .int gv), (2, .int hd), (3, .int pg), (4, .int rt), (5, .int ro), (6, .int fo)]) (by decide +kernel) rfl (Nat.le_of_ble_eq_true rfl) rfl ?_
  intro p e s m below meth c A hAe hAg X hr hmn
  have hinX70 : ∀ w ∈ wsX70, w ∈ wsX7_make := fun w h => List.mem_cons_of_mem _ (List.mem_append_right _ h)
  have hl7 := List.mem_of_getElem? (l := wsX7_make) (i := 1) rfl
  refine g_bipush (v := (127 : Int32)) X dX7_make_0 (by decide) rfl ?_
  refine g_bipush (v := (7 : Int32)) X dX7_make_2 (by decide) rfl ?_
  refine g_aload_n X dX7_make_4 rfl 0 rfl rfl ?_
  refine gM_get_at X dX7_make_5 hinX70 hl7 rfl ?_
  refine g_bipush (v := (76 : Int32)) X dX7_make_8 (by decide) rfl ?_
  refine gM_ld_at X dX7_make_10 (k := 76) rfl (by decide) rfl ?_
  refine g_topi (hmk) ?_
  refine g_imul X dX7_make_11 rfl ?_
  refine g_topi (y := nI (7 * mk)) (pk_mul (7) (mk)) ?_
  refine g_iadd X dX7_make_12 rfl ?_
  refine g_topi (y := nI (127 + (7 * mk))) (nI_add (127) ((7 * mk))) ?_
  refine g_istore X [(7, _), (0, _), (1, _), (2, _), (3, _), (4, _), (5, _), (6, _)] dX7_make_13 (by decide) rfl rfl ?_
  refine g_aload_n X dX7_make_15 rfl 1 rfl rfl ?_
  refine gM_get_at X dX7_make_16 hinX70 hl7 rfl ?_
  refine g_iload X dX7_make_19 0 rfl rfl ?_
  refine g_iconst (v := (0 : Int32)) X dX7_make_21 (by decide) rfl ?_
  refine g_iadd X dX7_make_22 rfl ?_
  refine g_topi (y := nI ((127 + (7 * mk)) + 0)) (nI_add ((127 + (7 * mk))) (0)) ?_
  refine g_iload_n X dX7_make_23 rfl 4 rfl rfl ?_
  refine gM_st_at X rfl dX7_make_24 (by first | rfl | assumption) (by omega) rfl ?_
  refine g_aload_n X dX7_make_25 rfl 1 rfl rfl ?_
  refine gM_get_at X dX7_make_26 hinX70 hl7 rfl ?_
  refine g_iload X dX7_make_29 0 rfl rfl ?_
  refine g_iconst (v := (1 : Int32)) X dX7_make_31 (by decide) rfl ?_
  refine g_iadd X dX7_make_32 rfl ?_
  refine g_topi (y := nI ((127 + (7 * mk)) + 1)) (nI_add ((127 + (7 * mk))) (1)) ?_
  refine g_iload_n X dX7_make_33 rfl 2 rfl rfl ?_
  refine gM_st_at X rfl dX7_make_34 (by first | rfl | assumption) (by omega) rfl ?_
  refine g_aload_n X dX7_make_35 rfl 1 rfl rfl ?_
  refine gM_get_at X dX7_make_36 hinX70 hl7 rfl ?_
  refine g_iload X dX7_make_39 0 rfl rfl ?_
  refine g_iconst (v := (2 : Int32)) X dX7_make_41 (by decide) rfl ?_
  refine g_iadd X dX7_make_42 rfl ?_
  refine g_topi (y := nI ((127 + (7 * mk)) + 2)) (nI_add ((127 + (7 * mk))) (2)) ?_
  refine g_iload_n X dX7_make_43 rfl 3 rfl rfl ?_
  refine gM_st_at X rfl dX7_make_44 (by first | rfl | assumption) (by omega) rfl ?_
  refine g_aload_n X dX7_make_45 rfl 1 rfl rfl ?_
  refine gM_get_at X dX7_make_46 hinX70 hl7 rfl ?_
  refine g_iload X dX7_make_49 0 rfl rfl ?_
  refine g_iconst (v := (3 : Int32)) X dX7_make_51 (by decide) rfl ?_
  refine g_iadd X dX7_make_52 rfl ?_
  refine g_topi (y := nI ((127 + (7 * mk)) + 3)) (nI_add ((127 + (7 * mk))) (3)) ?_
  refine g_iload X dX7_make_53 5 rfl rfl ?_
  refine gM_st_at X rfl dX7_make_55 (by first | rfl | assumption) (by omega) rfl ?_
  refine g_aload_n X dX7_make_56 rfl 1 rfl rfl ?_
  refine gM_get_at X dX7_make_57 hinX70 hl7 rfl ?_
  refine g_iload X dX7_make_60 0 rfl rfl ?_
  refine g_iconst (v := (4 : Int32)) X dX7_make_62 (by decide) rfl ?_
  refine g_iadd X dX7_make_63 rfl ?_
  refine g_topi (y := nI ((127 + (7 * mk)) + 4)) (nI_add ((127 + (7 * mk))) (4)) ?_
  refine g_iload X dX7_make_64 6 rfl rfl ?_
  refine gM_st_at X rfl dX7_make_66 (by first | rfl | assumption) (by omega) rfl ?_
  refine g_aload_n X dX7_make_67 rfl 1 rfl rfl ?_
  refine gM_get_at X dX7_make_68 hinX70 hl7 rfl ?_
  refine g_iload X dX7_make_71 0 rfl rfl ?_
  refine g_iconst (v := (5 : Int32)) X dX7_make_73 (by decide) rfl ?_
  refine g_iadd X dX7_make_74 rfl ?_
  refine g_topi (y := nI ((127 + (7 * mk)) + 5)) (nI_add ((127 + (7 * mk))) (5)) ?_
  refine g_iload X dX7_make_75 7 rfl rfl ?_
  refine gM_st_at X rfl dX7_make_77 (by first | rfl | assumption) (by omega) rfl ?_
  refine g_aload_n X dX7_make_78 rfl 1 rfl rfl ?_
  refine gM_get_at X dX7_make_79 hinX70 hl7 rfl ?_
  refine g_iload X dX7_make_82 0 rfl rfl ?_
  refine g_bipush (v := (6 : Int32)) X dX7_make_84 (by decide) rfl ?_
  refine g_iadd X dX7_make_86 rfl ?_
  refine g_topi (y := nI ((127 + (7 * mk)) + 6)) (nI_add ((127 + (7 * mk))) (6)) ?_
  refine g_iconst (v := (0 : Int32)) X dX7_make_87 (by decide) rfl ?_
  refine gM_st_at X rfl dX7_make_88 (by first | rfl | assumption) (by omega) rfl ?_
  refine g_aload_n X dX7_make_89 rfl 1 rfl rfl ?_
  refine gM_get_at X dX7_make_90 hinX70 hl7 rfl ?_
  refine g_bipush (v := (76 : Int32)) X dX7_make_93 (by decide) rfl ?_
  refine g_dup2 X dX7_make_95 rfl rfl rfl ?_
  refine gM_ld_at X dX7_make_96 (k := 76) rfl (by decide) rfl ?_
  refine g_topi (show _ = nI mk from by rw [up_n _ _ (by omega), up_n _ _ (by omega), up_n _ _ (by omega), up_n _ _ (by omega), up_n _ _ (by omega), up_n _ _ (by omega), up_n _ _ (by omega)]; exact hmk) ?_
  refine g_iconst (v := (1 : Int32)) X dX7_make_97 (by decide) rfl ?_
  refine g_iadd X dX7_make_98 rfl ?_
  refine g_topi (y := nI (mk + 1)) (nI_add (mk) (1)) ?_
  refine gM_st_at X rfl dX7_make_99 (k := 76) rfl (by decide) rfl ?_
  refine g_aload_n X dX7_make_100 rfl 1 rfl rfl ?_
  refine gM_get_at X dX7_make_101 hinX70 hl7 rfl ?_
  refine g_bipush (v := (76 : Int32)) X dX7_make_104 (by decide) rfl ?_
  refine gM_ld_at X dX7_make_106 (k := 76) rfl (by decide) rfl ?_
  refine g_topi (show _ = nI (mk + 1) from up_s _ _ _) ?_
  refine g_iconst (v := (1 : Int32)) X dX7_make_107 (by decide) rfl ?_
  refine g_isub X dX7_make_108 rfl ?_
  refine g_topi (nI_pred mk) ?_
  refine g_retW X hr (by first | rfl | exact b2i_nar _) dX7_make_109 hAe ?_
  exact ⟨rfl, rfl⟩

set_option maxHeartbeats 4000000 in
set_option maxRecDepth 100000 in
theorem c_X7_tryOwn (l : Launch) (D : DT) (a : Nat → Nat) (fa fp fs fv fg fw fd ft fn : Nat → Int32) (wk : Int32) (dm : Int32) (sp : Int32) (iw : Int32) (od : Int32) (i1 km : Nat) (hi1 : i1 < 6) (hm : km ≤ 6) (mk nn b : Nat) (hW : WF fa mk nn b) (x gu : Int32) (bk : Bool) : MW l yX7_tryOwn wsX7_tryOwn 4 90 0 0 D [.ref (a 0), .int x, .int gu, .int (b2i bk)] (wM D a fa fp fs fv fg fw fd ft fn (nI i1) (nI km) wk dm sp iw od) (tryPost D a fp fs fv fd ft fn i1 km dm sp iw od bk fa (ownS fa x gu)) := by
  refine MW.of (cc := cX7_tryOwn) (maxL := 4) (ret := (some .int)) (lv := [(0, .ref (a 0)), (1, .int x), (2, .int gu), (3, .int (b2i bk))]) (by decide +kernel) rfl (Nat.le_of_ble_eq_true rfl) rfl ?_
  intro p e s m below meth c A hAe hAg X hr hmn
  have hinX70 : ∀ w ∈ wsX70, w ∈ wsX7_tryOwn := fun w h => List.mem_cons_of_mem _ (List.mem_append_right _ h)
  have hl7 := List.mem_of_getElem? (l := wsX7_tryOwn) (i := 1) rfl
  obtain ⟨hmk, h40, hnn, hb0, hb1, hb8, hnb, hst, hnk, how, hdo, hs1, hs2, hs3, hZF⟩ := id hW
  have hmkN : mkN fa = mk := by unfold mkN; rw [hmk]; exact nI_clamp (by omega)
  have hnN : nN fa = nn := by unfold nN; rw [hnn]; exact nI_clamp (by omega)
  refine g_iload_n X dX7_tryOwn_0 rfl 1 rfl rfl ?_
  refine g_callSR (n := 1) (As := [_]) (rest := []) X (c_X7_isPage l D _) gX7_tryOwn_X7_isPage rfl (by decide +kernel) ⟨Nat.le_of_ble_eq_true rfl, Nat.le_of_ble_eq_true rfl⟩ [] rfl rfl rfl rfl (Nat.le_of_ble_eq_true rfl) dX7_tryOwn_1 ⟨Nat.le_of_ble_eq_true rfl, Nat.le_of_ble_eq_true rfl⟩ rfl (fun v hv => ?_)
  obtain rfl := hv
  refine g_st (st' := [_]) rfl ?_
  refine g_if_eq X dX7_tryOwn_4 20 (by decide) rfl (fun h4 => ?_) (fun h4 => ?_)
  · replace h4 := b2i_0 h4
    refine g_iconst (v := ((-1) : Int32)) X dX7_tryOwn_20 (by decide) rfl ?_
    refine g_retW X hr (by first | rfl | exact b2i_nar _) dX7_tryOwn_21 hAe ?_
    exact tryPost_err (by simp [ownS, *]) (by decide)
  · replace h4 := b2i_n0 h4
    refine g_iload_n X dX7_tryOwn_7 rfl 2 rfl rfl ?_
    refine g_bipush (v := ((-6) : Int32)) X dX7_tryOwn_8 (by decide) rfl ?_
    refine g_icmp_eq X dX7_tryOwn_10 22 (by decide) rfl (fun h10 => ?_) (fun h10 => ?_)
    · obtain ⟨pg, hpg, rfl⟩ := rng_nI h4
      have hcx := nI_clamp (n := pg) (by omega)
      refine g_aload_n X dX7_tryOwn_22 rfl 0 rfl rfl ?_
      refine g_iload_n X dX7_tryOwn_23 rfl 3 rfl rfl ?_
      refine g_callVWs (n := 1) (As := [_]) (rest := []) X hAg rfl (c_X7_keepIf l D _ _ _ _ _ _ _ _ _ _ _ _ _ _ _  i1 km hi1 hm bk) gX7_tryOwn_X7_keepIf rfl (by decide +kernel) ⟨Nat.le_of_ble_eq_true rfl, Nat.le_of_ble_eq_true rfl⟩ rfl rfl  rfl rfl (Nat.le_of_ble_eq_true rfl) dX7_tryOwn_24 ⟨Nat.le_of_ble_eq_true rfl, Nat.le_of_ble_eq_true rfl⟩ rfl (fun v w hv => ?_)
      obtain ⟨rfl, rfl⟩ := hv
      refine ⟨rfl, ?_⟩
      refine g_st (st' := []) rfl ?_
      refine g_aload_n X dX7_tryOwn_27 rfl 0 rfl rfl ?_
      refine gM_get_at X dX7_tryOwn_28 hinX70 hl7 rfl ?_
      refine g_iconst (v := (4 : Int32)) X dX7_tryOwn_31 (by decide) rfl ?_
      refine g_iload_n X dX7_tryOwn_32 rfl 1 rfl rfl ?_
      refine g_iadd X dX7_tryOwn_33 rfl ?_
      refine g_topi (y := nI (4 + pg)) (nI_add (4) (pg)) ?_
      refine gM_ld_at X dX7_tryOwn_34 (by first | rfl | assumption) (by omega) rfl ?_
      refine g_iload_n X dX7_tryOwn_35 rfl 2 rfl rfl ?_
      refine g_icmp_ne X dX7_tryOwn_36 41 (by decide) rfl (fun h36 => ?_) (fun h36 => ?_)
      · have hne : (0 : Int32) ≤ 0 := by decide
        refine g_aload_n X dX7_tryOwn_41 rfl 0 rfl rfl ?_
        refine g_callVWs (n := 0) (As := []) (rest := []) X hAg rfl (c_X7_layGood l D _ _ _ _ _ _ _ _ _ _ _ _ _ _ _ _ _  mk hmk h40 hst) gX7_tryOwn_X7_layGood rfl (by decide +kernel) ⟨Nat.le_of_ble_eq_true rfl, Nat.le_of_ble_eq_true rfl⟩ rfl rfl  rfl rfl (Nat.le_of_ble_eq_true rfl) dX7_tryOwn_42 ⟨Nat.le_of_ble_eq_true rfl, Nat.le_of_ble_eq_true rfl⟩ rfl (fun v w hv => ?_)
        obtain ⟨rfl, rfl⟩ := hv
        refine ⟨rfl, ?_⟩
        refine g_st (st' := []) rfl ?_
        refine g_aload_n X dX7_tryOwn_45 rfl 0 rfl rfl ?_
        refine gM_get_at X dX7_tryOwn_46 hinX70 hl7 rfl ?_
        refine g_iconst (v := (4 : Int32)) X dX7_tryOwn_49 (by decide) rfl ?_
        refine g_iload_n X dX7_tryOwn_50 rfl 1 rfl rfl ?_
        refine g_iadd X dX7_tryOwn_51 rfl ?_
        refine g_topi (y := nI (4 + pg)) (nI_add (4) (pg)) ?_
        refine g_iload_n X dX7_tryOwn_52 rfl 2 rfl rfl ?_
        refine gM_st_at X rfl dX7_tryOwn_53 (by first | rfl | assumption) (by omega) rfl ?_
        have hmk1 : up fa (4 + pg) gu 76 = nI mk := by rw [up_n _ _ (by omega)]; exact hmk
        have hnn1 : up fa (4 + pg) gu 90 = nI nn := by rw [up_n _ _ (by omega)]; exact hnn
        have hst1 : ∀ s, s < mk → stOK (up fa (4 + pg) gu) s := fun s hs => stOK_c (fun w hw => up_n _ _ (by omega)) (hst s hs)
        have hdo1 : ∀ k, k < 60 → up fa (4 + pg) gu (16 + k) = -6 ∨ ∃ s : Nat, s < mk ∧ up fa (4 + pg) gu (16 + k) = nI s := fun k hk => by rw [up_n _ _ (by omega)]; exact hdo k hk
        have hnk1 : ∀ k, k < nn → noOK (up fa (4 + pg) gu) k := fun k hk => noOK_c (fun w hw => up_n _ _ (by omega)) (hnk k hk)
        refine g_aload_n X dX7_tryOwn_54 rfl 0 rfl rfl ?_
        refine g_iload_n X dX7_tryOwn_55 rfl 1 rfl rfl ?_
        refine g_callVWs (n := 1) (As := [_]) (rest := []) X hAg rfl (c_X7_wipeBy l D _ _ _ _ _ _ _ _ _ _ _ _ _ _ _ _ _  mk hmk1 h40 hst1 nn hnn1 (by omega) hdo1 hnk1 _) gX7_tryOwn_X7_wipeBy rfl (by decide +kernel) ⟨Nat.le_of_ble_eq_true rfl, Nat.le_of_ble_eq_true rfl⟩ rfl rfl  rfl rfl (Nat.le_of_ble_eq_true rfl) dX7_tryOwn_56 ⟨Nat.le_of_ble_eq_true rfl, Nat.le_of_ble_eq_true rfl⟩ rfl (fun v w hv => ?_)
        obtain ⟨rfl, rfl⟩ := hv
        refine ⟨rfl, ?_⟩
        refine g_st (st' := [_]) rfl ?_
        refine g_retW X hr (by first | rfl | exact b2i_nar _) dX7_tryOwn_59 hAe ?_
        obtain ⟨e1, e2⟩ := wk_P (f := up fa (4 + pg) gu) (n := nn) (fun k hk => goes_goM (f0 := fa) (f1 := up fa (4 + pg) gu) (g := fgI fa fg mk) (g' := fg) (w := fw) (x := nI pg) hdo1 h40 (hnk1 k hk))
        rw [e1, e2]
        exact tryPost_ok (by first | (simp [ownS, wipeS, *]; done) | (subst h10; simp [ownS, wipeS, *]; done)) (wkN_ge (by omega))
      · refine g_iconst (v := (0 : Int32)) X dX7_tryOwn_39 (by decide) rfl ?_
        refine g_retW X hr (by first | rfl | exact b2i_nar _) dX7_tryOwn_40 hAe ?_
        exact tryPost_ok (by simp [ownS, *]) (by decide)
    · refine g_iload_n X dX7_tryOwn_13 rfl 2 rfl rfl ?_
      refine g_callSR (n := 1) (As := [_]) (rest := []) X (c_X7_isGuest l D _) gX7_tryOwn_X7_isGuest rfl (by decide +kernel) ⟨Nat.le_of_ble_eq_true rfl, Nat.le_of_ble_eq_true rfl⟩ [] rfl rfl rfl rfl (Nat.le_of_ble_eq_true rfl) dX7_tryOwn_14 ⟨Nat.le_of_ble_eq_true rfl, Nat.le_of_ble_eq_true rfl⟩ rfl (fun v hv => ?_)
      obtain rfl := hv
      refine g_st (st' := [_]) rfl ?_
      refine g_if_ne X dX7_tryOwn_17 22 (by decide) rfl (fun h17 => ?_) (fun h17 => ?_)
      · replace h17 := b2i_n0 h17
        obtain ⟨pg, hpg, rfl⟩ := rng_nI h4
        have hcx := nI_clamp (n := pg) (by omega)
        refine g_aload_n X dX7_tryOwn_22 rfl 0 rfl rfl ?_
        refine g_iload_n X dX7_tryOwn_23 rfl 3 rfl rfl ?_
        refine g_callVWs (n := 1) (As := [_]) (rest := []) X hAg rfl (c_X7_keepIf l D _ _ _ _ _ _ _ _ _ _ _ _ _ _ _  i1 km hi1 hm bk) gX7_tryOwn_X7_keepIf rfl (by decide +kernel) ⟨Nat.le_of_ble_eq_true rfl, Nat.le_of_ble_eq_true rfl⟩ rfl rfl  rfl rfl (Nat.le_of_ble_eq_true rfl) dX7_tryOwn_24 ⟨Nat.le_of_ble_eq_true rfl, Nat.le_of_ble_eq_true rfl⟩ rfl (fun v w hv => ?_)
        obtain ⟨rfl, rfl⟩ := hv
        refine ⟨rfl, ?_⟩
        refine g_st (st' := []) rfl ?_
        refine g_aload_n X dX7_tryOwn_27 rfl 0 rfl rfl ?_
        refine gM_get_at X dX7_tryOwn_28 hinX70 hl7 rfl ?_
        refine g_iconst (v := (4 : Int32)) X dX7_tryOwn_31 (by decide) rfl ?_
        refine g_iload_n X dX7_tryOwn_32 rfl 1 rfl rfl ?_
        refine g_iadd X dX7_tryOwn_33 rfl ?_
        refine g_topi (y := nI (4 + pg)) (nI_add (4) (pg)) ?_
        refine gM_ld_at X dX7_tryOwn_34 (by first | rfl | assumption) (by omega) rfl ?_
        refine g_iload_n X dX7_tryOwn_35 rfl 2 rfl rfl ?_
        refine g_icmp_ne X dX7_tryOwn_36 41 (by decide) rfl (fun h36 => ?_) (fun h36 => ?_)
        · have hne : (0 : Int32) ≤ 0 := by decide
          refine g_aload_n X dX7_tryOwn_41 rfl 0 rfl rfl ?_
          refine g_callVWs (n := 0) (As := []) (rest := []) X hAg rfl (c_X7_layGood l D _ _ _ _ _ _ _ _ _ _ _ _ _ _ _ _ _  mk hmk h40 hst) gX7_tryOwn_X7_layGood rfl (by decide +kernel) ⟨Nat.le_of_ble_eq_true rfl, Nat.le_of_ble_eq_true rfl⟩ rfl rfl  rfl rfl (Nat.le_of_ble_eq_true rfl) dX7_tryOwn_42 ⟨Nat.le_of_ble_eq_true rfl, Nat.le_of_ble_eq_true rfl⟩ rfl (fun v w hv => ?_)
          obtain ⟨rfl, rfl⟩ := hv
          refine ⟨rfl, ?_⟩
          refine g_st (st' := []) rfl ?_
          refine g_aload_n X dX7_tryOwn_45 rfl 0 rfl rfl ?_
          refine gM_get_at X dX7_tryOwn_46 hinX70 hl7 rfl ?_
          refine g_iconst (v := (4 : Int32)) X dX7_tryOwn_49 (by decide) rfl ?_
          refine g_iload_n X dX7_tryOwn_50 rfl 1 rfl rfl ?_
          refine g_iadd X dX7_tryOwn_51 rfl ?_
          refine g_topi (y := nI (4 + pg)) (nI_add (4) (pg)) ?_
          refine g_iload_n X dX7_tryOwn_52 rfl 2 rfl rfl ?_
          refine gM_st_at X rfl dX7_tryOwn_53 (by first | rfl | assumption) (by omega) rfl ?_
          have hmk1 : up fa (4 + pg) gu 76 = nI mk := by rw [up_n _ _ (by omega)]; exact hmk
          have hnn1 : up fa (4 + pg) gu 90 = nI nn := by rw [up_n _ _ (by omega)]; exact hnn
          have hst1 : ∀ s, s < mk → stOK (up fa (4 + pg) gu) s := fun s hs => stOK_c (fun w hw => up_n _ _ (by omega)) (hst s hs)
          have hdo1 : ∀ k, k < 60 → up fa (4 + pg) gu (16 + k) = -6 ∨ ∃ s : Nat, s < mk ∧ up fa (4 + pg) gu (16 + k) = nI s := fun k hk => by rw [up_n _ _ (by omega)]; exact hdo k hk
          have hnk1 : ∀ k, k < nn → noOK (up fa (4 + pg) gu) k := fun k hk => noOK_c (fun w hw => up_n _ _ (by omega)) (hnk k hk)
          refine g_aload_n X dX7_tryOwn_54 rfl 0 rfl rfl ?_
          refine g_iload_n X dX7_tryOwn_55 rfl 1 rfl rfl ?_
          refine g_callVWs (n := 1) (As := [_]) (rest := []) X hAg rfl (c_X7_wipeBy l D _ _ _ _ _ _ _ _ _ _ _ _ _ _ _ _ _  mk hmk1 h40 hst1 nn hnn1 (by omega) hdo1 hnk1 _) gX7_tryOwn_X7_wipeBy rfl (by decide +kernel) ⟨Nat.le_of_ble_eq_true rfl, Nat.le_of_ble_eq_true rfl⟩ rfl rfl  rfl rfl (Nat.le_of_ble_eq_true rfl) dX7_tryOwn_56 ⟨Nat.le_of_ble_eq_true rfl, Nat.le_of_ble_eq_true rfl⟩ rfl (fun v w hv => ?_)
          obtain ⟨rfl, rfl⟩ := hv
          refine ⟨rfl, ?_⟩
          refine g_st (st' := [_]) rfl ?_
          refine g_retW X hr (by first | rfl | exact b2i_nar _) dX7_tryOwn_59 hAe ?_
          obtain ⟨e1, e2⟩ := wk_P (f := up fa (4 + pg) gu) (n := nn) (fun k hk => goes_goM (f0 := fa) (f1 := up fa (4 + pg) gu) (g := fgI fa fg mk) (g' := fg) (w := fw) (x := nI pg) hdo1 h40 (hnk1 k hk))
          rw [e1, e2]
          exact tryPost_ok (by first | (simp [ownS, wipeS, *]; done) | (subst h10; simp [ownS, wipeS, *]; done)) (wkN_ge (by omega))
        · refine g_iconst (v := (0 : Int32)) X dX7_tryOwn_39 (by decide) rfl ?_
          refine g_retW X hr (by first | rfl | exact b2i_nar _) dX7_tryOwn_40 hAe ?_
          exact tryPost_ok (by simp [ownS, *]) (by decide)
      · replace h17 := b2i_0 h17
        refine g_iconst (v := ((-1) : Int32)) X dX7_tryOwn_20 (by decide) rfl ?_
        refine g_retW X hr (by first | rfl | exact b2i_nar _) dX7_tryOwn_21 hAe ?_
        exact tryPost_err (by simp [ownS, *]) (by decide)

set_option maxHeartbeats 4000000 in
set_option maxRecDepth 100000 in
theorem c_X7_own (l : Launch) (D : DT) (a : Nat → Nat) (fa fp fs fv fg fw fd ft fn : Nat → Int32) (wk : Int32) (dm : Int32) (sp : Int32) (iw : Int32) (od : Int32) (i1 km : Nat) (hi1 : i1 < 6) (hm : km ≤ 6) (mk nn b : Nat) (hW : WF fa mk nn b) (x gu : Int32) : MW l yX7_own wsX7_own 5 113 0 0 D [.ref (a 0), .int x, .int gu] (wM D a fa fp fs fv fg fw fd ft fn (nI i1) (nI km) wk dm sp iw od) (tryPost D a fp fs fv fd ft fn i1 km dm sp iw od true fa (ownS fa x gu)) := by
  refine MW.of (cc := cX7_own) (maxL := 3) (ret := (some .int)) (lv := [(0, .ref (a 0)), (1, .int x), (2, .int gu)]) (by decide +kernel) rfl (Nat.le_of_ble_eq_true rfl) rfl ?_
  intro p e s m below meth c A hAe hAg X hr hmn
  have hinX70 : ∀ w ∈ wsX70, w ∈ wsX7_own := fun w h => List.mem_cons_of_mem _ (List.mem_append_right _ h)
  refine g_aload_n X dX7_own_0 rfl 0 rfl rfl ?_
  refine g_iload_n X dX7_own_1 rfl 1 rfl rfl ?_
  refine g_iload_n X dX7_own_2 rfl 2 rfl rfl ?_
  refine g_iconst (v := (1 : Int32)) X dX7_own_3 (by decide) rfl ?_
  refine g_callVWs (n := 3) (As := [_, _, _]) (rest := []) X hAg rfl (c_X7_tryOwn l D _ _ _ _ _ _ _ _ _ _ _ _ _ _ _  i1 km hi1 hm mk nn b hW x gu true) gX7_own_X7_tryOwn rfl (by decide +kernel) ⟨Nat.le_of_ble_eq_true rfl, Nat.le_of_ble_eq_true rfl⟩ rfl rfl  rfl rfl (Nat.le_of_ble_eq_true rfl) dX7_own_4 ⟨Nat.le_of_ble_eq_true rfl, Nat.le_of_ble_eq_true rfl⟩ rfl (fun v w hv => ?_)
  obtain ⟨fg1, fw1, wk1, rfl, rfl⟩ := hv
  refine ⟨rfl, ?_⟩
  refine g_st (st' := [_]) rfl ?_
  refine g_retW X hr (by first | rfl | exact b2i_nar _) dX7_own_7 hAe ?_
  exact ⟨fg1, fw1, wk1, rfl, rfl⟩

set_option maxHeartbeats 4000000 in
set_option maxRecDepth 100000 in
theorem c_X7_tryStamp (l : Launch) (D : DT) (a : Nat → Nat) (fa fp fs fv fg fw fd ft fn : Nat → Int32) (wk : Int32) (dm : Int32) (sp : Int32) (iw : Int32) (od : Int32) (i1 km : Nat) (hi1 : i1 < 6) (hm : km ≤ 6) (mk nn b : Nat) (hW : WF fa mk nn b) (gv hd pg rt : Int32) (bk : Bool) : MW l yX7_tryStamp wsX7_tryStamp 2 43 0 0 D [.ref (a 0), .int gv, .int hd, .int pg, .int rt, .int (b2i bk)] (wM D a fa fp fs fv fg fw fd ft fn (nI i1) (nI km) wk dm sp iw od) (tryPost D a fp fs fv fd ft fn i1 km dm sp iw od bk fa (stampS fa gv hd pg rt)) := by
  refine MW.of (cc := cX7_tryStamp) (maxL := 6) (ret := (some .int)) (lv := [(0, .ref (a 0)), (1, .int gv), (2, .int hd), (3, .int pg), (4, .int rt), (5, .int (b2i bk))]) (by decide +kernel) rfl (Nat.le_of_ble_eq_true rfl) rfl ?_
  intro p e s m below meth c A hAe hAg X hr hmn
  have hinX70 : ∀ w ∈ wsX70, w ∈ wsX7_tryStamp := fun w h => List.mem_cons_of_mem _ (List.mem_append_right _ h)
  have hl7 := List.mem_of_getElem? (l := wsX7_tryStamp) (i := 1) rfl
  obtain ⟨hmk, h40, hnn, hb0, hb1, hb8, hnb, hst, hnk, how, hdo, hs1, hs2, hs3, hZF⟩ := id hW
  have hmkN : mkN fa = mk := by unfold mkN; rw [hmk]; exact nI_clamp (by omega)
  have hnN : nN fa = nn := by unfold nN; rw [hnn]; exact nI_clamp (by omega)
  refine g_iload_n X dX7_tryStamp_0 rfl 1 rfl rfl ?_
  refine g_callSR (n := 1) (As := [_]) (rest := []) X (c_X7_isGuest l D _) gX7_tryStamp_X7_isGuest rfl (by decide +kernel) ⟨Nat.le_of_ble_eq_true rfl, Nat.le_of_ble_eq_true rfl⟩ [] rfl rfl rfl rfl (Nat.le_of_ble_eq_true rfl) dX7_tryStamp_1 ⟨Nat.le_of_ble_eq_true rfl, Nat.le_of_ble_eq_true rfl⟩ rfl (fun v hv => ?_)
  obtain rfl := hv
  refine g_st (st' := [_]) rfl ?_
  refine g_if_eq X dX7_tryStamp_4 21 (by decide) rfl (fun h4 => ?_) (fun h4 => ?_)
  · replace h4 := b2i_0 h4
    refine g_iconst (v := ((-1) : Int32)) X dX7_tryStamp_21 (by decide) rfl ?_
    refine g_retW X hr (by first | rfl | exact b2i_nar _) dX7_tryStamp_22 hAe ?_
    exact tryPost_err (by first | (simp [stampS, rtOK, *]; done) | (simp_all [stampS, rtOK]; done)) (by decide)
  · replace h4 := b2i_n0 h4
    refine g_iload_n X dX7_tryStamp_7 rfl 2 rfl rfl ?_
    refine g_callSR (n := 1) (As := [_]) (rest := []) X (c_X7_isGuest l D _) gX7_tryStamp_X7_isGuest rfl (by decide +kernel) ⟨Nat.le_of_ble_eq_true rfl, Nat.le_of_ble_eq_true rfl⟩ [] rfl rfl rfl rfl (Nat.le_of_ble_eq_true rfl) dX7_tryStamp_8 ⟨Nat.le_of_ble_eq_true rfl, Nat.le_of_ble_eq_true rfl⟩ rfl (fun v hv => ?_)
    obtain rfl := hv
    refine g_st (st' := [_]) rfl ?_
    refine g_if_eq X dX7_tryStamp_11 21 (by decide) rfl (fun h11 => ?_) (fun h11 => ?_)
    · replace h11 := b2i_0 h11
      refine g_iconst (v := ((-1) : Int32)) X dX7_tryStamp_21 (by decide) rfl ?_
      refine g_retW X hr (by first | rfl | exact b2i_nar _) dX7_tryStamp_22 hAe ?_
      exact tryPost_err (by first | (simp [stampS, rtOK, *]; done) | (simp_all [stampS, rtOK]; done)) (by decide)
    · replace h11 := b2i_n0 h11
      refine g_iload_n X dX7_tryStamp_14 rfl 3 rfl rfl ?_
      refine g_callSR (n := 1) (As := [_]) (rest := []) X (c_X7_isPage l D _) gX7_tryStamp_X7_isPage rfl (by decide +kernel) ⟨Nat.le_of_ble_eq_true rfl, Nat.le_of_ble_eq_true rfl⟩ [] rfl rfl rfl rfl (Nat.le_of_ble_eq_true rfl) dX7_tryStamp_15 ⟨Nat.le_of_ble_eq_true rfl, Nat.le_of_ble_eq_true rfl⟩ rfl (fun v hv => ?_)
      obtain rfl := hv
      refine g_st (st' := [_]) rfl ?_
      refine g_if_ne X dX7_tryStamp_18 23 (by decide) rfl (fun h18 => ?_) (fun h18 => ?_)
      · replace h18 := b2i_n0 h18
        refine g_iload X dX7_tryStamp_23 4 rfl rfl ?_
        refine g_callSR (n := 1) (As := [_]) (rest := []) X (c_X7_areRights l D _) gX7_tryStamp_X7_areRights rfl (by decide +kernel) ⟨Nat.le_of_ble_eq_true rfl, Nat.le_of_ble_eq_true rfl⟩ [] rfl rfl rfl rfl (Nat.le_of_ble_eq_true rfl) dX7_tryStamp_25 ⟨Nat.le_of_ble_eq_true rfl, Nat.le_of_ble_eq_true rfl⟩ rfl (fun v hv => ?_)
        obtain rfl := hv
        refine g_st (st' := [_]) rfl ?_
        refine g_if_ne X dX7_tryStamp_28 34 (by decide) rfl (fun h28 => ?_) (fun h28 => ?_)
        · replace h28 := b2i_n0 h28
          refine g_aload_n X dX7_tryStamp_34 rfl 0 rfl rfl ?_
          refine gM_get_at X dX7_tryStamp_35 hinX70 hl7 rfl ?_
          refine g_bipush (v := (76 : Int32)) X dX7_tryStamp_38 (by decide) rfl ?_
          refine gM_ld_at X dX7_tryStamp_40 (k := 76) rfl (by decide) rfl ?_
          refine g_bipush (v := (40 : Int32)) X dX7_tryStamp_41 (by decide) rfl ?_
          refine g_top2 (hmk) ?_
          refine g_icmp_ne X dX7_tryStamp_43 49 (by decide) rfl (fun h43 => ?_) (fun h43 => ?_)
          · have i43 := nj_ne (a := mk) (b := 40) (by omega) (by omega) h43
            refine g_aload_n X dX7_tryStamp_49 rfl 0 rfl rfl ?_
            refine gM_get_at X dX7_tryStamp_50 hinX70 hl7 rfl ?_
            refine g_iconst (v := (4 : Int32)) X dX7_tryStamp_53 (by decide) rfl ?_
            refine g_iload_n X dX7_tryStamp_54 rfl 3 rfl rfl ?_
            refine g_iadd X dX7_tryStamp_55 rfl ?_
            obtain ⟨q, hq, eq⟩ := rng_nI h18
            have hcq : pg.toNatClampNeg = q := by rw [eq]; exact nI_clamp (by omega)
            refine g_topi (ix_4 eq) ?_
            refine gM_ld_at X dX7_tryStamp_56 (by first | rfl | assumption) (by omega) rfl ?_
            refine g_iload_n X dX7_tryStamp_57 rfl 1 rfl rfl ?_
            refine g_icmp_eq X dX7_tryStamp_58 64 (by decide) rfl (fun h58 => ?_) (fun h58 => ?_)
            · refine g_aload_n X dX7_tryStamp_64 rfl 0 rfl rfl ?_
              refine g_iload X dX7_tryStamp_65 5 rfl rfl ?_
              refine g_callVWs (n := 1) (As := [_]) (rest := []) X hAg rfl (c_X7_keepIf l D _ _ _ _ _ _ _ _ _ _ _ _ _ _ _  i1 km hi1 hm bk) gX7_tryStamp_X7_keepIf rfl (by decide +kernel) ⟨Nat.le_of_ble_eq_true rfl, Nat.le_of_ble_eq_true rfl⟩ rfl rfl  rfl rfl (Nat.le_of_ble_eq_true rfl) dX7_tryStamp_67 ⟨Nat.le_of_ble_eq_true rfl, Nat.le_of_ble_eq_true rfl⟩ rfl (fun v w hv => ?_)
              obtain ⟨rfl, rfl⟩ := hv
              refine ⟨rfl, ?_⟩
              refine g_st (st' := []) rfl ?_
              clear eq
              refine g_aload_n X dX7_tryStamp_70 rfl 0 rfl rfl ?_
              refine g_iload_n X dX7_tryStamp_71 rfl 1 rfl rfl ?_
              refine g_iload_n X dX7_tryStamp_72 rfl 2 rfl rfl ?_
              refine g_iload_n X dX7_tryStamp_73 rfl 3 rfl rfl ?_
              refine g_iload X dX7_tryStamp_74 4 rfl rfl ?_
              refine g_bipush (v := ((-6) : Int32)) X dX7_tryStamp_76 (by decide) rfl ?_
              refine g_iconst (v := (0 : Int32)) X dX7_tryStamp_78 (by decide) rfl ?_
              refine g_callVWs (n := 6) (As := [_, _, _, _, _, _]) (rest := []) X hAg rfl (c_X7_make l D _ _ _ _ _ _ _ _ _ _ _ _ _ _ _ _ _  mk hmk (by omega) _ _ _ _ _ _) gX7_tryStamp_X7_make rfl (by decide +kernel) ⟨Nat.le_of_ble_eq_true rfl, Nat.le_of_ble_eq_true rfl⟩ rfl rfl  rfl rfl (Nat.le_of_ble_eq_true rfl) dX7_tryStamp_79 ⟨Nat.le_of_ble_eq_true rfl, Nat.le_of_ble_eq_true rfl⟩ rfl (fun v w hv => ?_)
              obtain ⟨rfl, rfl⟩ := hv
              refine ⟨rfl, ?_⟩
              refine g_st (st' := [_]) rfl ?_
              refine g_retW X hr (by first | rfl | exact b2i_nar _) dX7_tryStamp_82 hAe ?_
              exact tryPost_ok (by first | (simp [stampS, rtOK, *]; done) | (simp_all [stampS, rtOK]; done)) (nI_ge0 (by omega))
            · refine g_bipush (v := ((-5) : Int32)) X dX7_tryStamp_61 (by decide) rfl ?_
              refine g_retW X hr (by first | rfl | exact b2i_nar _) dX7_tryStamp_63 hAe ?_
              exact tryPost_err (by first | (simp [stampS, rtOK, *]; done) | (simp_all [stampS, rtOK]; done)) (by decide)
          · have i43 := nj_eq (a := mk) (b := 40) (by omega) (by omega) h43
            refine g_bipush (v := ((-4) : Int32)) X dX7_tryStamp_46 (by decide) rfl ?_
            refine g_retW X hr (by first | rfl | exact b2i_nar _) dX7_tryStamp_48 hAe ?_
            exact tryPost_err (by first | (simp [stampS, rtOK, *]; done) | (simp_all [stampS, rtOK]; done)) (by decide)
        · replace h28 := b2i_0 h28
          refine g_bipush (v := ((-2) : Int32)) X dX7_tryStamp_31 (by decide) rfl ?_
          refine g_retW X hr (by first | rfl | exact b2i_nar _) dX7_tryStamp_33 hAe ?_
          exact tryPost_err (by first | (simp [stampS, rtOK, *]; done) | (simp_all [stampS, rtOK]; done)) (by decide)
      · replace h18 := b2i_0 h18
        refine g_iconst (v := ((-1) : Int32)) X dX7_tryStamp_21 (by decide) rfl ?_
        refine g_retW X hr (by first | rfl | exact b2i_nar _) dX7_tryStamp_22 hAe ?_
        exact tryPost_err (by first | (simp [stampS, rtOK, *]; done) | (simp_all [stampS, rtOK]; done)) (by decide)

set_option maxHeartbeats 4000000 in
set_option maxRecDepth 100000 in
theorem c_X7_stamp (l : Launch) (D : DT) (a : Nat → Nat) (fa fp fs fv fg fw fd ft fn : Nat → Int32) (wk : Int32) (dm : Int32) (sp : Int32) (iw : Int32) (od : Int32) (i1 km : Nat) (hi1 : i1 < 6) (hm : km ≤ 6) (mk nn b : Nat) (hW : WF fa mk nn b) (gv hd pg rt : Int32) : MW l yX7_stamp wsX7_stamp 3 68 0 0 D [.ref (a 0), .int gv, .int hd, .int pg, .int rt] (wM D a fa fp fs fv fg fw fd ft fn (nI i1) (nI km) wk dm sp iw od) (tryPost D a fp fs fv fd ft fn i1 km dm sp iw od true fa (stampS fa gv hd pg rt)) := by
  refine MW.of (cc := cX7_stamp) (maxL := 5) (ret := (some .int)) (lv := [(0, .ref (a 0)), (1, .int gv), (2, .int hd), (3, .int pg), (4, .int rt)]) (by decide +kernel) rfl (Nat.le_of_ble_eq_true rfl) rfl ?_
  intro p e s m below meth c A hAe hAg X hr hmn
  have hinX70 : ∀ w ∈ wsX70, w ∈ wsX7_stamp := fun w h => List.mem_cons_of_mem _ (List.mem_append_right _ h)
  refine g_aload_n X dX7_stamp_0 rfl 0 rfl rfl ?_
  refine g_iload_n X dX7_stamp_1 rfl 1 rfl rfl ?_
  refine g_iload_n X dX7_stamp_2 rfl 2 rfl rfl ?_
  refine g_iload_n X dX7_stamp_3 rfl 3 rfl rfl ?_
  refine g_iload X dX7_stamp_4 4 rfl rfl ?_
  refine g_iconst (v := (1 : Int32)) X dX7_stamp_6 (by decide) rfl ?_
  refine g_callVWs (n := 5) (As := [_, _, _, _, _]) (rest := []) X hAg rfl (c_X7_tryStamp l D _ _ _ _ _ _ _ _ _ _ _ _ _ _ _  i1 km hi1 hm mk nn b hW gv hd pg rt true) gX7_stamp_X7_tryStamp rfl (by decide +kernel) ⟨Nat.le_of_ble_eq_true rfl, Nat.le_of_ble_eq_true rfl⟩ rfl rfl  rfl rfl (Nat.le_of_ble_eq_true rfl) dX7_stamp_7 ⟨Nat.le_of_ble_eq_true rfl, Nat.le_of_ble_eq_true rfl⟩ rfl (fun v w hv => ?_)
  obtain ⟨fg1, fw1, wk1, rfl, rfl⟩ := hv
  refine ⟨rfl, ?_⟩
  refine g_st (st' := [_]) rfl ?_
  refine g_retW X hr (by first | rfl | exact b2i_nar _) dX7_stamp_10 hAe ?_
  exact ⟨fg1, fw1, wk1, rfl, rfl⟩

set_option maxHeartbeats 4000000 in
set_option maxRecDepth 100000 in
theorem c_X7_tryPass (l : Launch) (D : DT) (a : Nat → Nat) (fa fp fs fv fg fw fd ft fn : Nat → Int32) (wk : Int32) (dm : Int32) (sp : Int32) (iw : Int32) (od : Int32) (i1 km : Nat) (hi1 : i1 < 6) (hm : km ≤ 6) (mk nn b : Nat) (hW : WF fa mk nn b) (sx hd rt : Int32) (bk : Bool) : MW l yX7_tryPass wsX7_tryPass 3 67 0 0 D [.ref (a 0), .int sx, .int hd, .int rt, .int (b2i bk)] (wM D a fa fp fs fv fg fw fd ft fn (nI i1) (nI km) wk dm sp iw od) (tryPost D a fp fs fv fd ft fn i1 km dm sp iw od bk fa (passS fa sx hd rt)) := by
  refine MW.of (cc := cX7_tryPass) (maxL := 6) (ret := (some .int)) (lv := [(0, .ref (a 0)), (1, .int sx), (2, .int hd), (3, .int rt), (4, .int (b2i bk))]) (by decide +kernel) rfl (Nat.le_of_ble_eq_true rfl) rfl ?_
  intro p e s m below meth c A hAe hAg X hr hmn
  have hinX70 : ∀ w ∈ wsX70, w ∈ wsX7_tryPass := fun w h => List.mem_cons_of_mem _ (List.mem_append_right _ h)
  have hl7 := List.mem_of_getElem? (l := wsX7_tryPass) (i := 1) rfl
  have hl23 := List.mem_of_getElem? (l := wsX7_tryPass) (i := 2) rfl
  obtain ⟨hmk, h40, hnn, hb0, hb1, hb8, hnb, hst, hnk, how, hdo, hs1, hs2, hs3, hZF⟩ := id hW
  have hmkN : mkN fa = mk := by unfold mkN; rw [hmk]; exact nI_clamp (by omega)
  have hnN : nN fa = nn := by unfold nN; rw [hnn]; exact nI_clamp (by omega)
  refine g_aload_n X dX7_tryPass_0 rfl 0 rfl rfl ?_
  refine g_iload_n X dX7_tryPass_1 rfl 1 rfl rfl ?_
  refine g_callVRs (n := 1) (As := [_]) (rest := []) X (c_X7_isStamp l D _ _ _ _ _ _ _ _ _ _ _ _ _ _ _ _ _  mk hmk h40 _) gX7_tryPass_X7_isStamp rfl (by decide +kernel) ⟨Nat.le_of_ble_eq_true rfl, Nat.le_of_ble_eq_true rfl⟩ rfl rfl  rfl rfl (Nat.le_of_ble_eq_true rfl) dX7_tryPass_2 ⟨Nat.le_of_ble_eq_true rfl, Nat.le_of_ble_eq_true rfl⟩ rfl (fun v hv => ?_)
  obtain rfl := hv
  refine g_st (st' := [_]) rfl ?_
  refine g_if_eq X dX7_tryPass_5 15 (by decide) rfl (fun h5 => ?_) (fun h5 => ?_)
  · replace h5 := b2i_0 h5
    refine g_iconst (v := ((-1) : Int32)) X dX7_tryPass_15 (by decide) rfl ?_
    refine g_retW X hr (by first | rfl | exact b2i_nar _) dX7_tryPass_16 hAe ?_
    exact tryPost_err (by first | (simp [passS, rtOK, *]; done) | (simp_all [passS, rtOK]; done)) (by decide)
  · replace h5 := b2i_n0 h5
    refine g_iload_n X dX7_tryPass_8 rfl 2 rfl rfl ?_
    refine g_callSR (n := 1) (As := [_]) (rest := []) X (c_X7_isGuest l D _) gX7_tryPass_X7_isGuest rfl (by decide +kernel) ⟨Nat.le_of_ble_eq_true rfl, Nat.le_of_ble_eq_true rfl⟩ [] rfl rfl rfl rfl (Nat.le_of_ble_eq_true rfl) dX7_tryPass_9 ⟨Nat.le_of_ble_eq_true rfl, Nat.le_of_ble_eq_true rfl⟩ rfl (fun v hv => ?_)
    obtain rfl := hv
    refine g_st (st' := [_]) rfl ?_
    refine g_if_ne X dX7_tryPass_12 17 (by decide) rfl (fun h12 => ?_) (fun h12 => ?_)
    · replace h12 := b2i_n0 h12
      refine g_iload_n X dX7_tryPass_17 rfl 3 rfl rfl ?_
      refine g_callSR (n := 1) (As := [_]) (rest := []) X (c_X7_areRights l D _) gX7_tryPass_X7_areRights rfl (by decide +kernel) ⟨Nat.le_of_ble_eq_true rfl, Nat.le_of_ble_eq_true rfl⟩ [] rfl rfl rfl rfl (Nat.le_of_ble_eq_true rfl) dX7_tryPass_18 ⟨Nat.le_of_ble_eq_true rfl, Nat.le_of_ble_eq_true rfl⟩ rfl (fun v hv => ?_)
      obtain rfl := hv
      refine g_st (st' := [_]) rfl ?_
      refine g_if_ne X dX7_tryPass_21 27 (by decide) rfl (fun h21 => ?_) (fun h21 => ?_)
      · replace h21 := b2i_n0 h21
        refine g_aload_n X dX7_tryPass_27 rfl 0 rfl rfl ?_
        refine gM_get_at X dX7_tryPass_28 hinX70 hl7 rfl ?_
        refine g_bipush (v := (76 : Int32)) X dX7_tryPass_31 (by decide) rfl ?_
        refine gM_ld_at X dX7_tryPass_33 (k := 76) rfl (by decide) rfl ?_
        refine g_bipush (v := (40 : Int32)) X dX7_tryPass_34 (by decide) rfl ?_
        refine g_top2 (hmk) ?_
        refine g_icmp_ne X dX7_tryPass_36 42 (by decide) rfl (fun h36 => ?_) (fun h36 => ?_)
        · have i36 := nj_ne (a := mk) (b := 40) (by omega) (by omega) h36
          obtain ⟨q, hq, rfl⟩ := rng_nI h5
          have hcq := nI_clamp (n := q) (by omega)
          refine g_aload_n X dX7_tryPass_42 rfl 0 rfl rfl ?_
          refine g_callVWs (n := 0) (As := []) (rest := []) X hAg rfl (c_X7_findGood l D _ _ _ _ _ _ _ _ _ _ _ _ _ _ _ _ _  mk hmk h40 hst) gX7_tryPass_X7_findGood rfl (by decide +kernel) ⟨Nat.le_of_ble_eq_true rfl, Nat.le_of_ble_eq_true rfl⟩ rfl rfl  rfl rfl (Nat.le_of_ble_eq_true rfl) dX7_tryPass_43 ⟨Nat.le_of_ble_eq_true rfl, Nat.le_of_ble_eq_true rfl⟩ rfl (fun v w hv => ?_)
          obtain ⟨rfl, rfl⟩ := hv
          refine ⟨rfl, ?_⟩
          refine g_st (st' := []) rfl ?_
          refine g_aload_n X dX7_tryPass_46 rfl 0 rfl rfl ?_
          refine g_iload_n X dX7_tryPass_47 rfl 1 rfl rfl ?_
          refine g_iconst (v := (3 : Int32)) X dX7_tryPass_48 (by decide) rfl ?_
          refine g_callVRs (n := 2) (As := [_, _]) (rest := []) X (c_X7_of l D _ _ _ _ _ _ _ _ _ _ _ _ _ _ _ _ _  (q) (3) (by omega) (by omega)) gX7_tryPass_X7_of rfl (by decide +kernel) ⟨Nat.le_of_ble_eq_true rfl, Nat.le_of_ble_eq_true rfl⟩ rfl rfl  rfl rfl (Nat.le_of_ble_eq_true rfl) dX7_tryPass_49 ⟨Nat.le_of_ble_eq_true rfl, Nat.le_of_ble_eq_true rfl⟩ rfl (fun v hv => ?_)
          obtain rfl := hv
          refine g_st (st' := [_]) rfl ?_
          refine g_istore X [(5, _), (0, _), (1, _), (2, _), (3, _), (4, _)] dX7_tryPass_52 (by decide) rfl rfl ?_
          refine g_aload_n X dX7_tryPass_54 rfl 1 rfl rfl ?_
          refine gM_get_good X dX7_tryPass_55 hinX70 hl23 rfl ?_
          refine g_iload_n X dX7_tryPass_58 rfl 2 rfl rfl ?_
          refine gM_ld_good X dX7_tryPass_59 (by first | rfl | assumption) (by omega) rfl ?_
          refine g_topi (fgI_lt (f := fa) (g := fg) (i := mk) (k := q) (by omega)) ?_
          refine g_if_eq X dX7_tryPass_60 78 (by decide) rfl (fun h60 => ?_) (fun h60 => ?_)
          · replace h60 := b2i_0 h60
            refine g_bipush (v := ((-5) : Int32)) X dX7_tryPass_78 (by decide) rfl ?_
            refine g_retW X hr (by first | rfl | exact b2i_nar _) dX7_tryPass_80 hAe ?_
            exact tryPost_err (by first | (simp [passS, rtOK, *]; done) | (simp_all [passS, rtOK]; done)) (by decide)
          · replace h60 := b2i_n0 h60
            refine g_iload X dX7_tryPass_63 0 rfl rfl ?_
            refine g_iconst (v := (4 : Int32)) X dX7_tryPass_65 (by decide) rfl ?_
            refine g_iand X dX7_tryPass_66 rfl ?_
            refine g_if_eq X dX7_tryPass_67 78 (by decide) rfl (fun h67 => ?_) (fun h67 => ?_)
            · refine g_bipush (v := ((-5) : Int32)) X dX7_tryPass_78 (by decide) rfl ?_
              refine g_retW X hr (by first | rfl | exact b2i_nar _) dX7_tryPass_80 hAe ?_
              exact tryPost_err (by first | (simp [passS, rtOK, *]; done) | (simp_all [passS, rtOK]; done)) (by decide)
            · refine g_iload X dX7_tryPass_70 0 rfl rfl ?_
              refine g_iload_n X dX7_tryPass_72 rfl 4 rfl rfl ?_
              refine g_iand X dX7_tryPass_73 rfl ?_
              refine g_iload_n X dX7_tryPass_74 rfl 4 rfl rfl ?_
              refine g_icmp_eq X dX7_tryPass_75 81 (by decide) rfl (fun h75 => ?_) (fun h75 => ?_)
              · refine g_aload_n X dX7_tryPass_81 rfl 1 rfl rfl ?_
                refine g_iload X dX7_tryPass_82 5 rfl rfl ?_
                refine g_callVWs (n := 1) (As := [_]) (rest := []) X hAg rfl (c_X7_keepIf l D _ _ _ _ _ _ _ _ _ _ _ _ _ _ _  i1 km hi1 hm bk) gX7_tryPass_X7_keepIf rfl (by decide +kernel) ⟨Nat.le_of_ble_eq_true rfl, Nat.le_of_ble_eq_true rfl⟩ rfl rfl  rfl rfl (Nat.le_of_ble_eq_true rfl) dX7_tryPass_84 ⟨Nat.le_of_ble_eq_true rfl, Nat.le_of_ble_eq_true rfl⟩ rfl (fun v w hv => ?_)
                obtain ⟨rfl, rfl⟩ := hv
                refine ⟨rfl, ?_⟩
                refine g_st (st' := []) rfl ?_
                refine g_aload_n X dX7_tryPass_87 rfl 1 rfl rfl ?_
                refine g_aload_n X dX7_tryPass_88 rfl 1 rfl rfl ?_
                refine g_iload_n X dX7_tryPass_89 rfl 2 rfl rfl ?_
                refine g_iconst (v := (2 : Int32)) X dX7_tryPass_90 (by decide) rfl ?_
                refine g_callVRs (n := 2) (As := [_, _]) (rest := [_]) X (c_X7_of l D _ _ _ _ _ _ _ _ _ _ _ _ _ _ _ _ _  (q) (2) (by omega) (by omega)) gX7_tryPass_X7_of rfl (by decide +kernel) ⟨Nat.le_of_ble_eq_true rfl, Nat.le_of_ble_eq_true rfl⟩ rfl rfl  rfl rfl (Nat.le_of_ble_eq_true rfl) dX7_tryPass_91 ⟨Nat.le_of_ble_eq_true rfl, Nat.le_of_ble_eq_true rfl⟩ rfl (fun v hv => ?_)
                obtain rfl := hv
                refine g_st (st' := [_, _]) rfl ?_
                refine g_iload_n X dX7_tryPass_94 rfl 3 rfl rfl ?_
                refine g_aload_n X dX7_tryPass_95 rfl 1 rfl rfl ?_
                refine g_iload_n X dX7_tryPass_96 rfl 2 rfl rfl ?_
                refine g_iconst (v := (0 : Int32)) X dX7_tryPass_97 (by decide) rfl ?_
                refine g_callVRs (n := 2) (As := [_, _]) (rest := [_, _, _]) X (c_X7_of l D _ _ _ _ _ _ _ _ _ _ _ _ _ _ _ _ _  (q) (0) (by omega) (by omega)) gX7_tryPass_X7_of rfl (by decide +kernel) ⟨Nat.le_of_ble_eq_true rfl, Nat.le_of_ble_eq_true rfl⟩ rfl rfl  rfl rfl (Nat.le_of_ble_eq_true rfl) dX7_tryPass_98 ⟨Nat.le_of_ble_eq_true rfl, Nat.le_of_ble_eq_true rfl⟩ rfl (fun v hv => ?_)
                obtain rfl := hv
                refine g_st (st' := [_, _, _, _]) rfl ?_
                refine g_iload_n X dX7_tryPass_101 rfl 4 rfl rfl ?_
                refine g_iload_n X dX7_tryPass_102 rfl 2 rfl rfl ?_
                refine g_iconst (v := (0 : Int32)) X dX7_tryPass_103 (by decide) rfl ?_
                refine g_callVWs (n := 6) (As := [_, _, _, _, _, _]) (rest := []) X hAg rfl (c_X7_make l D _ _ _ _ _ _ _ _ _ _ _ _ _ _ _ _ _  mk hmk (by omega) _ _ _ _ _ _) gX7_tryPass_X7_make rfl (by decide +kernel) ⟨Nat.le_of_ble_eq_true rfl, Nat.le_of_ble_eq_true rfl⟩ rfl rfl  rfl rfl (Nat.le_of_ble_eq_true rfl) dX7_tryPass_104 ⟨Nat.le_of_ble_eq_true rfl, Nat.le_of_ble_eq_true rfl⟩ rfl (fun v w hv => ?_)
                obtain ⟨rfl, rfl⟩ := hv
                refine ⟨rfl, ?_⟩
                refine g_st (st' := [_]) rfl ?_
                refine g_retW X hr (by first | rfl | exact b2i_nar _) dX7_tryPass_107 hAe ?_
                exact tryPost_ok (by first | (simp [passS, rtOK, *]; done) | (simp_all [passS, rtOK]; done)) (nI_ge0 (by omega))
              · refine g_bipush (v := ((-5) : Int32)) X dX7_tryPass_78 (by decide) rfl ?_
                refine g_retW X hr (by first | rfl | exact b2i_nar _) dX7_tryPass_80 hAe ?_
                exact tryPost_err (by first | (simp [passS, rtOK, *]; done) | (simp_all [passS, rtOK]; done)) (by decide)
        · have i36 := nj_eq (a := mk) (b := 40) (by omega) (by omega) h36
          refine g_bipush (v := ((-4) : Int32)) X dX7_tryPass_39 (by decide) rfl ?_
          refine g_retW X hr (by first | rfl | exact b2i_nar _) dX7_tryPass_41 hAe ?_
          exact tryPost_err (by first | (simp [passS, rtOK, *]; done) | (simp_all [passS, rtOK]; done)) (by decide)
      · replace h21 := b2i_0 h21
        refine g_bipush (v := ((-2) : Int32)) X dX7_tryPass_24 (by decide) rfl ?_
        refine g_retW X hr (by first | rfl | exact b2i_nar _) dX7_tryPass_26 hAe ?_
        exact tryPost_err (by first | (simp [passS, rtOK, *]; done) | (simp_all [passS, rtOK]; done)) (by decide)
    · replace h12 := b2i_0 h12
      refine g_iconst (v := ((-1) : Int32)) X dX7_tryPass_15 (by decide) rfl ?_
      refine g_retW X hr (by first | rfl | exact b2i_nar _) dX7_tryPass_16 hAe ?_
      exact tryPost_err (by first | (simp [passS, rtOK, *]; done) | (simp_all [passS, rtOK]; done)) (by decide)

set_option maxHeartbeats 4000000 in
set_option maxRecDepth 100000 in
theorem c_X7_pass (l : Launch) (D : DT) (a : Nat → Nat) (fa fp fs fv fg fw fd ft fn : Nat → Int32) (wk : Int32) (dm : Int32) (sp : Int32) (iw : Int32) (od : Int32) (i1 km : Nat) (hi1 : i1 < 6) (hm : km ≤ 6) (mk nn b : Nat) (hW : WF fa mk nn b) (sx hd rt : Int32) : MW l yX7_pass wsX7_pass 4 92 0 0 D [.ref (a 0), .int sx, .int hd, .int rt] (wM D a fa fp fs fv fg fw fd ft fn (nI i1) (nI km) wk dm sp iw od) (tryPost D a fp fs fv fd ft fn i1 km dm sp iw od true fa (passS fa sx hd rt)) := by
  refine MW.of (cc := cX7_pass) (maxL := 4) (ret := (some .int)) (lv := [(0, .ref (a 0)), (1, .int sx), (2, .int hd), (3, .int rt)]) (by decide +kernel) rfl (Nat.le_of_ble_eq_true rfl) rfl ?_
  intro p e s m below meth c A hAe hAg X hr hmn
  have hinX70 : ∀ w ∈ wsX70, w ∈ wsX7_pass := fun w h => List.mem_cons_of_mem _ (List.mem_append_right _ h)
  refine g_aload_n X dX7_pass_0 rfl 0 rfl rfl ?_
  refine g_iload_n X dX7_pass_1 rfl 1 rfl rfl ?_
  refine g_iload_n X dX7_pass_2 rfl 2 rfl rfl ?_
  refine g_iload_n X dX7_pass_3 rfl 3 rfl rfl ?_
  refine g_iconst (v := (1 : Int32)) X dX7_pass_4 (by decide) rfl ?_
  refine g_callVWs (n := 4) (As := [_, _, _, _]) (rest := []) X hAg rfl (c_X7_tryPass l D _ _ _ _ _ _ _ _ _ _ _ _ _ _ _  i1 km hi1 hm mk nn b hW sx hd rt true) gX7_pass_X7_tryPass rfl (by decide +kernel) ⟨Nat.le_of_ble_eq_true rfl, Nat.le_of_ble_eq_true rfl⟩ rfl rfl  rfl rfl (Nat.le_of_ble_eq_true rfl) dX7_pass_5 ⟨Nat.le_of_ble_eq_true rfl, Nat.le_of_ble_eq_true rfl⟩ rfl (fun v w hv => ?_)
  obtain ⟨fg1, fw1, wk1, rfl, rfl⟩ := hv
  refine ⟨rfl, ?_⟩
  refine g_st (st' := [_]) rfl ?_
  refine g_retW X hr (by first | rfl | exact b2i_nar _) dX7_pass_8 hAe ?_
  exact ⟨fg1, fw1, wk1, rfl, rfl⟩

set_option maxHeartbeats 4000000 in
set_option maxRecDepth 100000 in
theorem c_X7_forge (l : Launch) (D : DT) (a : Nat → Nat) (fa fp fs fv fg fw fd ft fn : Nat → Int32) (wk : Int32) (dm : Int32) (sp : Int32) (iw : Int32) (od : Int32) (i1 km : Nat) (hi1 : i1 < 6) (hm : km ≤ 6) (mk nn b : Nat) (hW : WF fa mk nn b) (gv hd pg rt ro : Int32) : MW l yX7_forge wsX7_forge 2 43 0 0 D [.ref (a 0), .int gv, .int hd, .int pg, .int rt, .int ro] (wM D a fa fp fs fv fg fw fd ft fn (nI i1) (nI km) wk dm sp iw od) (tryPost D a fp fs fv fd ft fn i1 km dm sp iw od true fa (forgeS fa gv hd pg rt ro)) := by
  refine MW.of (cc := cX7_forge) (maxL := 6) (ret := (some .int)) (lv := [(0, .ref (a 0)), (1, .int gv), (2, .int hd), (3, .int pg), (4, .int rt), (5, .int ro)]) (by decide +kernel) rfl (Nat.le_of_ble_eq_true rfl) rfl ?_
  intro p e s m below meth c A hAe hAg X hr hmn
  have hinX70 : ∀ w ∈ wsX70, w ∈ wsX7_forge := fun w h => List.mem_cons_of_mem _ (List.mem_append_right _ h)
  have hl7 := List.mem_of_getElem? (l := wsX7_forge) (i := 1) rfl
  obtain ⟨hmk, h40, hnn, hb0, hb1, hb8, hnb, hst, hnk, how, hdo, hs1, hs2, hs3, hZF⟩ := id hW
  have hmkN : mkN fa = mk := by unfold mkN; rw [hmk]; exact nI_clamp (by omega)
  have hnN : nN fa = nn := by unfold nN; rw [hnn]; exact nI_clamp (by omega)
  refine g_iload_n X dX7_forge_0 rfl 1 rfl rfl ?_
  refine g_callSR (n := 1) (As := [_]) (rest := []) X (c_X7_isGuest l D _) gX7_forge_X7_isGuest rfl (by decide +kernel) ⟨Nat.le_of_ble_eq_true rfl, Nat.le_of_ble_eq_true rfl⟩ [] rfl rfl rfl rfl (Nat.le_of_ble_eq_true rfl) dX7_forge_1 ⟨Nat.le_of_ble_eq_true rfl, Nat.le_of_ble_eq_true rfl⟩ rfl (fun v hv => ?_)
  obtain rfl := hv
  refine g_st (st' := [_]) rfl ?_
  refine g_if_eq X dX7_forge_4 37 (by decide) rfl (fun h4 => ?_) (fun h4 => ?_)
  · replace h4 := b2i_0 h4
    refine g_iconst (v := ((-1) : Int32)) X dX7_forge_37 (by decide) rfl ?_
    refine g_retW X hr (by first | rfl | exact b2i_nar _) dX7_forge_38 hAe ?_
    exact tryPost_err (by first | (simp [forgeS, rtOK, *]; done) | (simp_all [forgeS, rtOK]; done)) (by decide)
  · replace h4 := b2i_n0 h4
    refine g_iload_n X dX7_forge_7 rfl 2 rfl rfl ?_
    refine g_callSR (n := 1) (As := [_]) (rest := []) X (c_X7_isGuest l D _) gX7_forge_X7_isGuest rfl (by decide +kernel) ⟨Nat.le_of_ble_eq_true rfl, Nat.le_of_ble_eq_true rfl⟩ [] rfl rfl rfl rfl (Nat.le_of_ble_eq_true rfl) dX7_forge_8 ⟨Nat.le_of_ble_eq_true rfl, Nat.le_of_ble_eq_true rfl⟩ rfl (fun v hv => ?_)
    obtain rfl := hv
    refine g_st (st' := [_]) rfl ?_
    refine g_if_eq X dX7_forge_11 37 (by decide) rfl (fun h11 => ?_) (fun h11 => ?_)
    · replace h11 := b2i_0 h11
      refine g_iconst (v := ((-1) : Int32)) X dX7_forge_37 (by decide) rfl ?_
      refine g_retW X hr (by first | rfl | exact b2i_nar _) dX7_forge_38 hAe ?_
      exact tryPost_err (by first | (simp [forgeS, rtOK, *]; done) | (simp_all [forgeS, rtOK]; done)) (by decide)
    · replace h11 := b2i_n0 h11
      refine g_iload_n X dX7_forge_14 rfl 3 rfl rfl ?_
      refine g_callSR (n := 1) (As := [_]) (rest := []) X (c_X7_isPage l D _) gX7_forge_X7_isPage rfl (by decide +kernel) ⟨Nat.le_of_ble_eq_true rfl, Nat.le_of_ble_eq_true rfl⟩ [] rfl rfl rfl rfl (Nat.le_of_ble_eq_true rfl) dX7_forge_15 ⟨Nat.le_of_ble_eq_true rfl, Nat.le_of_ble_eq_true rfl⟩ rfl (fun v hv => ?_)
      obtain rfl := hv
      refine g_st (st' := [_]) rfl ?_
      refine g_if_eq X dX7_forge_18 37 (by decide) rfl (fun h18 => ?_) (fun h18 => ?_)
      · replace h18 := b2i_0 h18
        refine g_iconst (v := ((-1) : Int32)) X dX7_forge_37 (by decide) rfl ?_
        refine g_retW X hr (by first | rfl | exact b2i_nar _) dX7_forge_38 hAe ?_
        exact tryPost_err (by first | (simp [forgeS, rtOK, *]; done) | (simp_all [forgeS, rtOK]; done)) (by decide)
      · replace h18 := b2i_n0 h18
        refine g_iload X dX7_forge_21 5 rfl rfl ?_
        refine g_bipush (v := ((-6) : Int32)) X dX7_forge_23 (by decide) rfl ?_
        refine g_icmp_eq X dX7_forge_25 39 (by decide) rfl (fun h25 => ?_) (fun h25 => ?_)
        · refine g_iload X dX7_forge_39 4 rfl rfl ?_
          refine g_callSR (n := 1) (As := [_]) (rest := []) X (c_X7_areRights l D _) gX7_forge_X7_areRights rfl (by decide +kernel) ⟨Nat.le_of_ble_eq_true rfl, Nat.le_of_ble_eq_true rfl⟩ [] rfl rfl rfl rfl (Nat.le_of_ble_eq_true rfl) dX7_forge_41 ⟨Nat.le_of_ble_eq_true rfl, Nat.le_of_ble_eq_true rfl⟩ rfl (fun v hv => ?_)
          obtain rfl := hv
          refine g_st (st' := [_]) rfl ?_
          refine g_if_ne X dX7_forge_44 50 (by decide) rfl (fun h44 => ?_) (fun h44 => ?_)
          · replace h44 := b2i_n0 h44
            refine g_aload_n X dX7_forge_50 rfl 0 rfl rfl ?_
            refine gM_get_at X dX7_forge_51 hinX70 hl7 rfl ?_
            refine g_bipush (v := (76 : Int32)) X dX7_forge_54 (by decide) rfl ?_
            refine gM_ld_at X dX7_forge_56 (k := 76) rfl (by decide) rfl ?_
            refine g_bipush (v := (40 : Int32)) X dX7_forge_57 (by decide) rfl ?_
            refine g_top2 (hmk) ?_
            refine g_icmp_ne X dX7_forge_59 65 (by decide) rfl (fun h59 => ?_) (fun h59 => ?_)
            · have i59 := nj_ne (a := mk) (b := 40) (by omega) (by omega) h59
              refine g_aload_n X dX7_forge_65 rfl 0 rfl rfl ?_
              refine g_callVWs (n := 0) (As := []) (rest := []) X hAg rfl (c_X7_keep l D _ _ _ _ _ _ _ _ _ _ _ _ _ _ _  i1 km hi1 hm) gX7_forge_X7_keep rfl (by decide +kernel) ⟨Nat.le_of_ble_eq_true rfl, Nat.le_of_ble_eq_true rfl⟩ rfl rfl  rfl rfl (Nat.le_of_ble_eq_true rfl) dX7_forge_66 ⟨Nat.le_of_ble_eq_true rfl, Nat.le_of_ble_eq_true rfl⟩ rfl (fun v w hv => ?_)
              obtain ⟨rfl, rfl⟩ := hv
              refine ⟨rfl, ?_⟩
              refine g_st (st' := []) rfl ?_
              refine g_aload_n X dX7_forge_69 rfl 0 rfl rfl ?_
              refine g_iload_n X dX7_forge_70 rfl 1 rfl rfl ?_
              refine g_iload_n X dX7_forge_71 rfl 2 rfl rfl ?_
              refine g_iload_n X dX7_forge_72 rfl 3 rfl rfl ?_
              refine g_iload X dX7_forge_73 4 rfl rfl ?_
              refine g_iload X dX7_forge_75 5 rfl rfl ?_
              refine g_iconst (v := (1 : Int32)) X dX7_forge_77 (by decide) rfl ?_
              refine g_callVWs (n := 6) (As := [_, _, _, _, _, _]) (rest := []) X hAg rfl (c_X7_make l D _ _ _ _ _ _ _ _ _ _ _ _ _ _ _ _ _  mk hmk (by omega) _ _ _ _ _ _) gX7_forge_X7_make rfl (by decide +kernel) ⟨Nat.le_of_ble_eq_true rfl, Nat.le_of_ble_eq_true rfl⟩ rfl rfl  rfl rfl (Nat.le_of_ble_eq_true rfl) dX7_forge_78 ⟨Nat.le_of_ble_eq_true rfl, Nat.le_of_ble_eq_true rfl⟩ rfl (fun v w hv => ?_)
              obtain ⟨rfl, rfl⟩ := hv
              refine ⟨rfl, ?_⟩
              refine g_st (st' := [_]) rfl ?_
              refine g_retW X hr (by first | rfl | exact b2i_nar _) dX7_forge_81 hAe ?_
              exact tryPost_ok (b := true) (by first | (simp [forgeS, rtOK, *]; done) | (simp_all [forgeS, rtOK]; done)) (nI_ge0 (by omega))
            · have i59 := nj_eq (a := mk) (b := 40) (by omega) (by omega) h59
              refine g_bipush (v := ((-4) : Int32)) X dX7_forge_62 (by decide) rfl ?_
              refine g_retW X hr (by first | rfl | exact b2i_nar _) dX7_forge_64 hAe ?_
              exact tryPost_err (by first | (simp [forgeS, rtOK, *]; done) | (simp_all [forgeS, rtOK]; done)) (by decide)
          · replace h44 := b2i_0 h44
            refine g_bipush (v := ((-2) : Int32)) X dX7_forge_47 (by decide) rfl ?_
            refine g_retW X hr (by first | rfl | exact b2i_nar _) dX7_forge_49 hAe ?_
            exact tryPost_err (by first | (simp [forgeS, rtOK, *]; done) | (simp_all [forgeS, rtOK]; done)) (by decide)
        · refine g_aload_n X dX7_forge_28 rfl 0 rfl rfl ?_
          refine g_iload X dX7_forge_29 5 rfl rfl ?_
          refine g_callVRs (n := 1) (As := [_]) (rest := []) X (c_X7_isStamp l D _ _ _ _ _ _ _ _ _ _ _ _ _ _ _ _ _  mk hmk h40 _) gX7_forge_X7_isStamp rfl (by decide +kernel) ⟨Nat.le_of_ble_eq_true rfl, Nat.le_of_ble_eq_true rfl⟩ rfl rfl  rfl rfl (Nat.le_of_ble_eq_true rfl) dX7_forge_31 ⟨Nat.le_of_ble_eq_true rfl, Nat.le_of_ble_eq_true rfl⟩ rfl (fun v hv => ?_)
          obtain rfl := hv
          refine g_st (st' := [_]) rfl ?_
          refine g_if_ne X dX7_forge_34 39 (by decide) rfl (fun h34 => ?_) (fun h34 => ?_)
          · replace h34 := b2i_n0 h34
            refine g_iload X dX7_forge_39 4 rfl rfl ?_
            refine g_callSR (n := 1) (As := [_]) (rest := []) X (c_X7_areRights l D _) gX7_forge_X7_areRights rfl (by decide +kernel) ⟨Nat.le_of_ble_eq_true rfl, Nat.le_of_ble_eq_true rfl⟩ [] rfl rfl rfl rfl (Nat.le_of_ble_eq_true rfl) dX7_forge_41 ⟨Nat.le_of_ble_eq_true rfl, Nat.le_of_ble_eq_true rfl⟩ rfl (fun v hv => ?_)
            obtain rfl := hv
            refine g_st (st' := [_]) rfl ?_
            refine g_if_ne X dX7_forge_44 50 (by decide) rfl (fun h44 => ?_) (fun h44 => ?_)
            · replace h44 := b2i_n0 h44
              refine g_aload_n X dX7_forge_50 rfl 0 rfl rfl ?_
              refine gM_get_at X dX7_forge_51 hinX70 hl7 rfl ?_
              refine g_bipush (v := (76 : Int32)) X dX7_forge_54 (by decide) rfl ?_
              refine gM_ld_at X dX7_forge_56 (k := 76) rfl (by decide) rfl ?_
              refine g_bipush (v := (40 : Int32)) X dX7_forge_57 (by decide) rfl ?_
              refine g_top2 (hmk) ?_
              refine g_icmp_ne X dX7_forge_59 65 (by decide) rfl (fun h59 => ?_) (fun h59 => ?_)
              · have i59 := nj_ne (a := mk) (b := 40) (by omega) (by omega) h59
                refine g_aload_n X dX7_forge_65 rfl 0 rfl rfl ?_
                refine g_callVWs (n := 0) (As := []) (rest := []) X hAg rfl (c_X7_keep l D _ _ _ _ _ _ _ _ _ _ _ _ _ _ _  i1 km hi1 hm) gX7_forge_X7_keep rfl (by decide +kernel) ⟨Nat.le_of_ble_eq_true rfl, Nat.le_of_ble_eq_true rfl⟩ rfl rfl  rfl rfl (Nat.le_of_ble_eq_true rfl) dX7_forge_66 ⟨Nat.le_of_ble_eq_true rfl, Nat.le_of_ble_eq_true rfl⟩ rfl (fun v w hv => ?_)
                obtain ⟨rfl, rfl⟩ := hv
                refine ⟨rfl, ?_⟩
                refine g_st (st' := []) rfl ?_
                refine g_aload_n X dX7_forge_69 rfl 0 rfl rfl ?_
                refine g_iload_n X dX7_forge_70 rfl 1 rfl rfl ?_
                refine g_iload_n X dX7_forge_71 rfl 2 rfl rfl ?_
                refine g_iload_n X dX7_forge_72 rfl 3 rfl rfl ?_
                refine g_iload X dX7_forge_73 4 rfl rfl ?_
                refine g_iload X dX7_forge_75 5 rfl rfl ?_
                refine g_iconst (v := (1 : Int32)) X dX7_forge_77 (by decide) rfl ?_
                refine g_callVWs (n := 6) (As := [_, _, _, _, _, _]) (rest := []) X hAg rfl (c_X7_make l D _ _ _ _ _ _ _ _ _ _ _ _ _ _ _ _ _  mk hmk (by omega) _ _ _ _ _ _) gX7_forge_X7_make rfl (by decide +kernel) ⟨Nat.le_of_ble_eq_true rfl, Nat.le_of_ble_eq_true rfl⟩ rfl rfl  rfl rfl (Nat.le_of_ble_eq_true rfl) dX7_forge_78 ⟨Nat.le_of_ble_eq_true rfl, Nat.le_of_ble_eq_true rfl⟩ rfl (fun v w hv => ?_)
                obtain ⟨rfl, rfl⟩ := hv
                refine ⟨rfl, ?_⟩
                refine g_st (st' := [_]) rfl ?_
                refine g_retW X hr (by first | rfl | exact b2i_nar _) dX7_forge_81 hAe ?_
                exact tryPost_ok (b := true) (by first | (simp [forgeS, rtOK, *]; done) | (simp_all [forgeS, rtOK]; done)) (nI_ge0 (by omega))
              · have i59 := nj_eq (a := mk) (b := 40) (by omega) (by omega) h59
                refine g_bipush (v := ((-4) : Int32)) X dX7_forge_62 (by decide) rfl ?_
                refine g_retW X hr (by first | rfl | exact b2i_nar _) dX7_forge_64 hAe ?_
                exact tryPost_err (by first | (simp [forgeS, rtOK, *]; done) | (simp_all [forgeS, rtOK]; done)) (by decide)
            · replace h44 := b2i_0 h44
              refine g_bipush (v := ((-2) : Int32)) X dX7_forge_47 (by decide) rfl ?_
              refine g_retW X hr (by first | rfl | exact b2i_nar _) dX7_forge_49 hAe ?_
              exact tryPost_err (by first | (simp [forgeS, rtOK, *]; done) | (simp_all [forgeS, rtOK]; done)) (by decide)
          · replace h34 := b2i_0 h34
            refine g_iconst (v := ((-1) : Int32)) X dX7_forge_37 (by decide) rfl ?_
            refine g_retW X hr (by first | rfl | exact b2i_nar _) dX7_forge_38 hAe ?_
            exact tryPost_err (by first | (simp [forgeS, rtOK, *]; done) | (simp_all [forgeS, rtOK]; done)) (by decide)

set_option maxHeartbeats 4000000 in
set_option maxRecDepth 100000 in
theorem c_X7_tryTakeBack (l : Launch) (D : DT) (a : Nat → Nat) (fa fp fs fv fg fw fd ft fn : Nat → Int32) (wk : Int32) (dm : Int32) (sp : Int32) (iw : Int32) (od : Int32) (i1 km : Nat) (hi1 : i1 < 6) (hm : km ≤ 6) (mk nn b : Nat) (hW : WF fa mk nn b) (sx : Int32) (bk : Bool) : MW l yX7_tryTakeBack wsX7_tryTakeBack 4 90 0 0 D [.ref (a 0), .int sx, .int (b2i bk)] (wM D a fa fp fs fv fg fw fd ft fn (nI i1) (nI km) wk dm sp iw od) (tryPost D a fp fs fv fd ft fn i1 km dm sp iw od bk fa (takeS fa sx)) := by
  refine MW.of (cc := cX7_tryTakeBack) (maxL := 3) (ret := (some .int)) (lv := [(0, .ref (a 0)), (1, .int sx), (2, .int (b2i bk))]) (by decide +kernel) rfl (Nat.le_of_ble_eq_true rfl) rfl ?_
  intro p e s m below meth c A hAe hAg X hr hmn
  have hinX70 : ∀ w ∈ wsX70, w ∈ wsX7_tryTakeBack := fun w h => List.mem_cons_of_mem _ (List.mem_append_right _ h)
  have hl7 := List.mem_of_getElem? (l := wsX7_tryTakeBack) (i := 1) rfl
  obtain ⟨hmk, h40, hnn, hb0, hb1, hb8, hnb, hst, hnk, how, hdo, hs1, hs2, hs3, hZF⟩ := id hW
  have hmkN : mkN fa = mk := by unfold mkN; rw [hmk]; exact nI_clamp (by omega)
  have hnN : nN fa = nn := by unfold nN; rw [hnn]; exact nI_clamp (by omega)
  refine g_aload_n X dX7_tryTakeBack_0 rfl 0 rfl rfl ?_
  refine g_iload_n X dX7_tryTakeBack_1 rfl 1 rfl rfl ?_
  refine g_callVRs (n := 1) (As := [_]) (rest := []) X (c_X7_isStamp l D _ _ _ _ _ _ _ _ _ _ _ _ _ _ _ _ _  mk hmk h40 _) gX7_tryTakeBack_X7_isStamp rfl (by decide +kernel) ⟨Nat.le_of_ble_eq_true rfl, Nat.le_of_ble_eq_true rfl⟩ rfl rfl  rfl rfl (Nat.le_of_ble_eq_true rfl) dX7_tryTakeBack_2 ⟨Nat.le_of_ble_eq_true rfl, Nat.le_of_ble_eq_true rfl⟩ rfl (fun v hv => ?_)
  obtain rfl := hv
  refine g_st (st' := [_]) rfl ?_
  refine g_if_ne X dX7_tryTakeBack_5 10 (by decide) rfl (fun h5 => ?_) (fun h5 => ?_)
  · replace h5 := b2i_n0 h5
    obtain ⟨q, hq, rfl⟩ := rng_nI h5
    have hcq := nI_clamp (n := q) (by omega)
    refine g_aload_n X dX7_tryTakeBack_10 rfl 0 rfl rfl ?_
    refine g_iload_n X dX7_tryTakeBack_11 rfl 1 rfl rfl ?_
    refine g_bipush (v := (6 : Int32)) X dX7_tryTakeBack_12 (by decide) rfl ?_
    refine g_callVRs (n := 2) (As := [_, _]) (rest := []) X (c_X7_of l D _ _ _ _ _ _ _ _ _ _ _ _ _ _ _ _ _  (q) (6) (by omega) (by omega)) gX7_tryTakeBack_X7_of rfl (by decide +kernel) ⟨Nat.le_of_ble_eq_true rfl, Nat.le_of_ble_eq_true rfl⟩ rfl rfl  rfl rfl (Nat.le_of_ble_eq_true rfl) dX7_tryTakeBack_14 ⟨Nat.le_of_ble_eq_true rfl, Nat.le_of_ble_eq_true rfl⟩ rfl (fun v hv => ?_)
    obtain rfl := hv
    refine g_st (st' := [_]) rfl ?_
    refine g_iconst (v := (1 : Int32)) X dX7_tryTakeBack_17 (by decide) rfl ?_
    refine g_icmp_ne X dX7_tryTakeBack_18 24 (by decide) rfl (fun h18 => ?_) (fun h18 => ?_)
    · refine g_aload_n X dX7_tryTakeBack_24 rfl 0 rfl rfl ?_
      refine g_iload_n X dX7_tryTakeBack_25 rfl 2 rfl rfl ?_
      refine g_callVWs (n := 1) (As := [_]) (rest := []) X hAg rfl (c_X7_keepIf l D _ _ _ _ _ _ _ _ _ _ _ _ _ _ _  i1 km hi1 hm bk) gX7_tryTakeBack_X7_keepIf rfl (by decide +kernel) ⟨Nat.le_of_ble_eq_true rfl, Nat.le_of_ble_eq_true rfl⟩ rfl rfl  rfl rfl (Nat.le_of_ble_eq_true rfl) dX7_tryTakeBack_26 ⟨Nat.le_of_ble_eq_true rfl, Nat.le_of_ble_eq_true rfl⟩ rfl (fun v w hv => ?_)
      obtain ⟨rfl, rfl⟩ := hv
      refine ⟨rfl, ?_⟩
      refine g_st (st' := []) rfl ?_
      refine g_aload_n X dX7_tryTakeBack_29 rfl 0 rfl rfl ?_
      refine g_callVWs (n := 0) (As := []) (rest := []) X hAg rfl (c_X7_layGood l D _ _ _ _ _ _ _ _ _ _ _ _ _ _ _ _ _  mk hmk h40 hst) gX7_tryTakeBack_X7_layGood rfl (by decide +kernel) ⟨Nat.le_of_ble_eq_true rfl, Nat.le_of_ble_eq_true rfl⟩ rfl rfl  rfl rfl (Nat.le_of_ble_eq_true rfl) dX7_tryTakeBack_30 ⟨Nat.le_of_ble_eq_true rfl, Nat.le_of_ble_eq_true rfl⟩ rfl (fun v w hv => ?_)
      obtain ⟨rfl, rfl⟩ := hv
      refine ⟨rfl, ?_⟩
      refine g_st (st' := []) rfl ?_
      refine g_aload_n X dX7_tryTakeBack_33 rfl 0 rfl rfl ?_
      refine gM_get_at X dX7_tryTakeBack_34 hinX70 hl7 rfl ?_
      refine g_bipush (v := (127 : Int32)) X dX7_tryTakeBack_37 (by decide) rfl ?_
      refine g_bipush (v := (7 : Int32)) X dX7_tryTakeBack_39 (by decide) rfl ?_
      refine g_iload_n X dX7_tryTakeBack_41 rfl 1 rfl rfl ?_
      refine g_imul X dX7_tryTakeBack_42 rfl ?_
      refine g_topi (y := nI (7 * q)) (pk_mul (7) (q)) ?_
      refine g_iadd X dX7_tryTakeBack_43 rfl ?_
      refine g_topi (y := nI (127 + (7 * q))) (nI_add (127) ((7 * q))) ?_
      refine g_bipush (v := (6 : Int32)) X dX7_tryTakeBack_44 (by decide) rfl ?_
      refine g_iadd X dX7_tryTakeBack_46 rfl ?_
      refine g_topi (y := nI ((127 + (7 * q)) + 6)) (nI_add ((127 + (7 * q))) (6)) ?_
      refine g_iconst (v := (1 : Int32)) X dX7_tryTakeBack_47 (by decide) rfl ?_
      refine gM_st_at X rfl dX7_tryTakeBack_48 (by first | rfl | assumption) (by omega) rfl ?_
      have hmk1 : (up fa (127 + 7 * q + 6) 1) 76 = nI mk := by rw [up_n _ _ (by omega)]; exact hmk
      have hnn1 : (up fa (127 + 7 * q + 6) 1) 90 = nI nn := by rw [up_n _ _ (by omega)]; exact hnn
      have hdo1 : ∀ k, k < 60 → (up fa (127 + 7 * q + 6) 1) (16 + k) = -6 ∨ ∃ s : Nat, s < mk ∧ (up fa (127 + 7 * q + 6) 1) (16 + k) = nI s := fun k hk => by rw [up_n _ _ (by omega)]; exact hdo k hk
      have hnk1 : ∀ k, k < nn → noOK (up fa (127 + 7 * q + 6) 1) k := fun k hk => noOK_c (fun w hw => up_n _ _ (by omega)) (hnk k hk)
      have hst1 : ∀ s, s < mk → stOK (up fa (127 + 7 * q + 6) 1) s := fun s hs => stOK_b6 s q (hst s hs)
      refine g_aload_n X dX7_tryTakeBack_49 rfl 0 rfl rfl ?_
      refine g_aload_n X dX7_tryTakeBack_50 rfl 0 rfl rfl ?_
      refine g_iload_n X dX7_tryTakeBack_51 rfl 1 rfl rfl ?_
      refine g_iconst (v := (0 : Int32)) X dX7_tryTakeBack_52 (by decide) rfl ?_
      refine g_callVRs (n := 2) (As := [_, _]) (rest := [_]) X (c_X7_of l D _ _ _ _ _ _ _ _ _ _ _ _ _ _ _ _ _  (q) (0) (by omega) (by omega)) gX7_tryTakeBack_X7_of rfl (by decide +kernel) ⟨Nat.le_of_ble_eq_true rfl, Nat.le_of_ble_eq_true rfl⟩ rfl rfl  rfl rfl (Nat.le_of_ble_eq_true rfl) dX7_tryTakeBack_53 ⟨Nat.le_of_ble_eq_true rfl, Nat.le_of_ble_eq_true rfl⟩ rfl (fun v hv => ?_)
      obtain rfl := hv
      refine g_st (st' := [_, _]) rfl ?_
      refine g_topi (y := ofM fa q 0) (up_n (j := 127 + 0 + 7 * q) fa 1 (by omega)) ?_
      refine g_callVWs (n := 1) (As := [_]) (rest := []) X hAg rfl (c_X7_wipeBy l D _ _ _ _ _ _ _ _ _ _ _ _ _ _ _ _ _  mk hmk1 h40 hst1 nn hnn1 (by omega) hdo1 hnk1 _) gX7_tryTakeBack_X7_wipeBy rfl (by decide +kernel) ⟨Nat.le_of_ble_eq_true rfl, Nat.le_of_ble_eq_true rfl⟩ rfl rfl  rfl rfl (Nat.le_of_ble_eq_true rfl) dX7_tryTakeBack_56 ⟨Nat.le_of_ble_eq_true rfl, Nat.le_of_ble_eq_true rfl⟩ rfl (fun v w hv => ?_)
      obtain ⟨rfl, rfl⟩ := hv
      refine ⟨rfl, ?_⟩
      refine g_st (st' := [_]) rfl ?_
      refine g_retW X hr (by first | rfl | exact b2i_nar _) dX7_tryTakeBack_59 hAe ?_
      obtain ⟨e1, e2⟩ := wk_P (f := (up fa (127 + 7 * q + 6) 1)) (n := nn) (fun k hk => goes_goM (f0 := fa) (f1 := (up fa (127 + 7 * q + 6) 1)) (g := fgI fa fg mk) (g' := fg) (w := fw) (x := ofM fa q 0) hdo1 h40 (hnk1 k hk))
      rw [e1, e2]
      exact tryPost_ok (by simp [takeS, wipeS, *]) (wkN_ge (by omega))
    · refine g_bipush (v := ((-5) : Int32)) X dX7_tryTakeBack_21 (by decide) rfl ?_
      refine g_retW X hr (by first | rfl | exact b2i_nar _) dX7_tryTakeBack_23 hAe ?_
      exact tryPost_err (by first | (simp [takeS, rtOK, *]; done) | (simp_all [takeS, rtOK]; done)) (by decide)
  · replace h5 := b2i_0 h5
    refine g_iconst (v := ((-1) : Int32)) X dX7_tryTakeBack_8 (by decide) rfl ?_
    refine g_retW X hr (by first | rfl | exact b2i_nar _) dX7_tryTakeBack_9 hAe ?_
    exact tryPost_err (by first | (simp [takeS, rtOK, *]; done) | (simp_all [takeS, rtOK]; done)) (by decide)

set_option maxHeartbeats 4000000 in
set_option maxRecDepth 100000 in
theorem c_X7_takeBack (l : Launch) (D : DT) (a : Nat → Nat) (fa fp fs fv fg fw fd ft fn : Nat → Int32) (wk : Int32) (dm : Int32) (sp : Int32) (iw : Int32) (od : Int32) (i1 km : Nat) (hi1 : i1 < 6) (hm : km ≤ 6) (mk nn b : Nat) (hW : WF fa mk nn b) (sx : Int32) : MW l yX7_takeBack wsX7_takeBack 5 112 0 0 D [.ref (a 0), .int sx] (wM D a fa fp fs fv fg fw fd ft fn (nI i1) (nI km) wk dm sp iw od) (tryPost D a fp fs fv fd ft fn i1 km dm sp iw od true fa (takeS fa sx)) := by
  refine MW.of (cc := cX7_takeBack) (maxL := 2) (ret := (some .int)) (lv := [(0, .ref (a 0)), (1, .int sx)]) (by decide +kernel) rfl (Nat.le_of_ble_eq_true rfl) rfl ?_
  intro p e s m below meth c A hAe hAg X hr hmn
  have hinX70 : ∀ w ∈ wsX70, w ∈ wsX7_takeBack := fun w h => List.mem_cons_of_mem _ (List.mem_append_right _ h)
  refine g_aload_n X dX7_takeBack_0 rfl 0 rfl rfl ?_
  refine g_iload_n X dX7_takeBack_1 rfl 1 rfl rfl ?_
  refine g_iconst (v := (1 : Int32)) X dX7_takeBack_2 (by decide) rfl ?_
  refine g_callVWs (n := 2) (As := [_, _]) (rest := []) X hAg rfl (c_X7_tryTakeBack l D _ _ _ _ _ _ _ _ _ _ _ _ _ _ _  i1 km hi1 hm mk nn b hW sx true) gX7_takeBack_X7_tryTakeBack rfl (by decide +kernel) ⟨Nat.le_of_ble_eq_true rfl, Nat.le_of_ble_eq_true rfl⟩ rfl rfl  rfl rfl (Nat.le_of_ble_eq_true rfl) dX7_takeBack_3 ⟨Nat.le_of_ble_eq_true rfl, Nat.le_of_ble_eq_true rfl⟩ rfl (fun v w hv => ?_)
  obtain ⟨fg1, fw1, wk1, rfl, rfl⟩ := hv
  refine ⟨rfl, ?_⟩
  refine g_st (st' := [_]) rfl ?_
  refine g_retW X hr (by first | rfl | exact b2i_nar _) dX7_takeBack_6 hAe ?_
  exact ⟨fg1, fw1, wk1, rfl, rfl⟩

set_option maxHeartbeats 4000000 in
set_option maxRecDepth 100000 in
theorem c_X7_tryDoor (l : Launch) (D : DT) (a : Nat → Nat) (fa fp fs fv fg fw fd ft fn : Nat → Int32) (wk : Int32) (dm : Int32) (sp : Int32) (iw : Int32) (od : Int32) (i1 km : Nat) (hi1 : i1 < 6) (hm : km ≤ 6) (mk nn b : Nat) (hW : WF fa mk nn b) (g d sx : Int32) (bk : Bool) : MW l yX7_tryDoor wsX7_tryDoor 3 63 0 0 D [.ref (a 0), .int g, .int d, .int sx, .int (b2i bk)] (wM D a fa fp fs fv fg fw fd ft fn (nI i1) (nI km) wk dm sp iw od) (tryPost D a fp fs fv fd ft fn i1 km dm sp iw od bk fa (doorS fa g d sx)) := by
  refine MW.of (cc := cX7_tryDoor) (maxL := 5) (ret := (some .int)) (lv := [(0, .ref (a 0)), (1, .int g), (2, .int d), (3, .int sx), (4, .int (b2i bk))]) (by decide +kernel) rfl (Nat.le_of_ble_eq_true rfl) rfl ?_
  intro p e s m below meth c A hAe hAg X hr hmn
  have hinX70 : ∀ w ∈ wsX70, w ∈ wsX7_tryDoor := fun w h => List.mem_cons_of_mem _ (List.mem_append_right _ h)
  have hl7 := List.mem_of_getElem? (l := wsX7_tryDoor) (i := 1) rfl
  obtain ⟨hmk, h40, hnn, hb0, hb1, hb8, hnb, hst, hnk, how, hdo, hs1, hs2, hs3, hZF⟩ := id hW
  have hmkN : mkN fa = mk := by unfold mkN; rw [hmk]; exact nI_clamp (by omega)
  have hnN : nN fa = nn := by unfold nN; rw [hnn]; exact nI_clamp (by omega)
  refine g_iload_n X dX7_tryDoor_0 rfl 1 rfl rfl ?_
  refine g_iload_n X dX7_tryDoor_1 rfl 2 rfl rfl ?_
  refine g_callSR (n := 2) (As := [_, _]) (rest := []) X (c_X7_isDoor l D _ _) gX7_tryDoor_X7_isDoor rfl (by decide +kernel) ⟨Nat.le_of_ble_eq_true rfl, Nat.le_of_ble_eq_true rfl⟩ [] rfl rfl rfl rfl (Nat.le_of_ble_eq_true rfl) dX7_tryDoor_2 ⟨Nat.le_of_ble_eq_true rfl, Nat.le_of_ble_eq_true rfl⟩ rfl (fun v hv => ?_)
  obtain rfl := hv
  refine g_st (st' := [_]) rfl ?_
  refine g_if_eq X dX7_tryDoor_5 22 (by decide) rfl (fun h5 => ?_) (fun h5 => ?_)
  · replace h5 := b2i_0 h5
    refine g_iconst (v := ((-1) : Int32)) X dX7_tryDoor_22 (by decide) rfl ?_
    refine g_retW X hr (by first | rfl | exact b2i_nar _) dX7_tryDoor_23 hAe ?_
    exact tryPost_err (by first | (simp [doorS, rtOK, *]; done) | (simp_all [doorS, rtOK]; done)) (by decide)
  · replace h5 := b2i_n0 h5
    refine g_iload_n X dX7_tryDoor_8 rfl 3 rfl rfl ?_
    refine g_bipush (v := ((-6) : Int32)) X dX7_tryDoor_9 (by decide) rfl ?_
    refine g_icmp_eq X dX7_tryDoor_11 24 (by decide) rfl (fun h11 => ?_) (fun h11 => ?_)
    · obtain ⟨gq, hgq, egq⟩ := rng_nI (Bool.and_eq_true_iff.mp h5).1
      obtain ⟨dq, hdq, edq⟩ := rng_nI (Bool.and_eq_true_iff.mp h5).2
      subst egq; subst edq
      have hcg := nI_clamp (n := gq) (by omega)
      have hcd := nI_clamp (n := dq) (by omega)
      refine g_aload_n X dX7_tryDoor_24 rfl 0 rfl rfl ?_
      refine g_iload X dX7_tryDoor_25 4 rfl rfl ?_
      refine g_callVWs (n := 1) (As := [_]) (rest := []) X hAg rfl (c_X7_keepIf l D _ _ _ _ _ _ _ _ _ _ _ _ _ _ _  i1 km hi1 hm bk) gX7_tryDoor_X7_keepIf rfl (by decide +kernel) ⟨Nat.le_of_ble_eq_true rfl, Nat.le_of_ble_eq_true rfl⟩ rfl rfl  rfl rfl (Nat.le_of_ble_eq_true rfl) dX7_tryDoor_27 ⟨Nat.le_of_ble_eq_true rfl, Nat.le_of_ble_eq_true rfl⟩ rfl (fun v w hv => ?_)
      obtain ⟨rfl, rfl⟩ := hv
      refine ⟨rfl, ?_⟩
      refine g_st (st' := []) rfl ?_
      refine g_aload_n X dX7_tryDoor_30 rfl 0 rfl rfl ?_
      refine g_iload_n X dX7_tryDoor_31 rfl 1 rfl rfl ?_
      refine g_iload_n X dX7_tryDoor_32 rfl 2 rfl rfl ?_
      refine g_callVRs (n := 2) (As := [_, _]) (rest := []) X (c_X7_leadsBy l D _ _ _ _ _ _ _ _ _ _ _ _ _ _ _ _ _  (gq) (dq) (by omega) (by omega)) gX7_tryDoor_X7_leadsBy rfl (by decide +kernel) ⟨Nat.le_of_ble_eq_true rfl, Nat.le_of_ble_eq_true rfl⟩ rfl rfl  rfl rfl (Nat.le_of_ble_eq_true rfl) dX7_tryDoor_33 ⟨Nat.le_of_ble_eq_true rfl, Nat.le_of_ble_eq_true rfl⟩ rfl (fun v hv => ?_)
      obtain rfl := hv
      refine g_st (st' := [_]) rfl ?_
      refine g_iload_n X dX7_tryDoor_36 rfl 3 rfl rfl ?_
      refine g_icmp_ne X dX7_tryDoor_37 42 (by decide) rfl (fun h37 => ?_) (fun h37 => ?_)
      · refine g_aload_n X dX7_tryDoor_42 rfl 0 rfl rfl ?_
        refine gM_get_at X dX7_tryDoor_43 hinX70 hl7 rfl ?_
        refine g_bipush (v := (16 : Int32)) X dX7_tryDoor_46 (by decide) rfl ?_
        refine g_bipush (v := (10 : Int32)) X dX7_tryDoor_48 (by decide) rfl ?_
        refine g_iload_n X dX7_tryDoor_50 rfl 1 rfl rfl ?_
        refine g_imul X dX7_tryDoor_51 rfl ?_
        refine g_topi (y := nI (10 * gq)) (pk_mul (10) (gq)) ?_
        refine g_iadd X dX7_tryDoor_52 rfl ?_
        refine g_topi (y := nI (16 + (10 * gq))) (nI_add (16) ((10 * gq))) ?_
        refine g_iload_n X dX7_tryDoor_53 rfl 2 rfl rfl ?_
        refine g_iadd X dX7_tryDoor_54 rfl ?_
        refine g_topi (y := nI ((16 + (10 * gq)) + dq)) (nI_add ((16 + (10 * gq))) (dq)) ?_
        refine g_iload_n X dX7_tryDoor_55 rfl 3 rfl rfl ?_
        refine gM_st_at X rfl dX7_tryDoor_56 (by first | rfl | assumption) (by omega) rfl ?_
        have hnn1 : (up fa (16 + 10 * gq + dq) sx) 90 = nI nn := by rw [up_n _ _ (by omega)]; exact hnn
        refine g_aload_n X dX7_tryDoor_57 rfl 0 rfl rfl ?_
        refine g_iload_n X dX7_tryDoor_58 rfl 1 rfl rfl ?_
        refine g_iload_n X dX7_tryDoor_59 rfl 2 rfl rfl ?_
        refine g_callVWs (n := 2) (As := [_, _]) (rest := []) X hAg rfl (c_X7_wipeOfDoor l D _ _ _ _ _ _ _ _ _ _ _ _ _ _ _ _ _  nn hnn1 (by omega) _ _) gX7_tryDoor_X7_wipeOfDoor rfl (by decide +kernel) ⟨Nat.le_of_ble_eq_true rfl, Nat.le_of_ble_eq_true rfl⟩ rfl rfl  rfl rfl (Nat.le_of_ble_eq_true rfl) dX7_tryDoor_60 ⟨Nat.le_of_ble_eq_true rfl, Nat.le_of_ble_eq_true rfl⟩ rfl (fun v w hv => ?_)
        obtain ⟨rfl, rfl⟩ := hv
        refine ⟨rfl, ?_⟩
        refine g_st (st' := [_]) rfl ?_
        refine g_retW X hr (by first | rfl | exact b2i_nar _) dX7_tryDoor_63 hAe ?_
        exact tryPost_ok (by first | (simp [doorS, *]; done) | (subst h11; simp [doorS, *]; done)) (wkN_ge (by omega))
      · refine g_iconst (v := (0 : Int32)) X dX7_tryDoor_40 (by decide) rfl ?_
        refine g_retW X hr (by first | rfl | exact b2i_nar _) dX7_tryDoor_41 hAe ?_
        exact tryPost_ok (by first | (simp [doorS, *]; done) | (subst h11; simp [doorS, *]; done) | (simp_all [doorS]; done)) (by decide)
    · refine g_aload_n X dX7_tryDoor_14 rfl 0 rfl rfl ?_
      refine g_iload_n X dX7_tryDoor_15 rfl 3 rfl rfl ?_
      refine g_callVRs (n := 1) (As := [_]) (rest := []) X (c_X7_isStamp l D _ _ _ _ _ _ _ _ _ _ _ _ _ _ _ _ _  mk hmk h40 _) gX7_tryDoor_X7_isStamp rfl (by decide +kernel) ⟨Nat.le_of_ble_eq_true rfl, Nat.le_of_ble_eq_true rfl⟩ rfl rfl  rfl rfl (Nat.le_of_ble_eq_true rfl) dX7_tryDoor_16 ⟨Nat.le_of_ble_eq_true rfl, Nat.le_of_ble_eq_true rfl⟩ rfl (fun v hv => ?_)
      obtain rfl := hv
      refine g_st (st' := [_]) rfl ?_
      refine g_if_ne X dX7_tryDoor_19 24 (by decide) rfl (fun h19 => ?_) (fun h19 => ?_)
      · replace h19 := b2i_n0 h19
        obtain ⟨gq, hgq, egq⟩ := rng_nI (Bool.and_eq_true_iff.mp h5).1
        obtain ⟨dq, hdq, edq⟩ := rng_nI (Bool.and_eq_true_iff.mp h5).2
        subst egq; subst edq
        have hcg := nI_clamp (n := gq) (by omega)
        have hcd := nI_clamp (n := dq) (by omega)
        refine g_aload_n X dX7_tryDoor_24 rfl 0 rfl rfl ?_
        refine g_iload X dX7_tryDoor_25 4 rfl rfl ?_
        refine g_callVWs (n := 1) (As := [_]) (rest := []) X hAg rfl (c_X7_keepIf l D _ _ _ _ _ _ _ _ _ _ _ _ _ _ _  i1 km hi1 hm bk) gX7_tryDoor_X7_keepIf rfl (by decide +kernel) ⟨Nat.le_of_ble_eq_true rfl, Nat.le_of_ble_eq_true rfl⟩ rfl rfl  rfl rfl (Nat.le_of_ble_eq_true rfl) dX7_tryDoor_27 ⟨Nat.le_of_ble_eq_true rfl, Nat.le_of_ble_eq_true rfl⟩ rfl (fun v w hv => ?_)
        obtain ⟨rfl, rfl⟩ := hv
        refine ⟨rfl, ?_⟩
        refine g_st (st' := []) rfl ?_
        refine g_aload_n X dX7_tryDoor_30 rfl 0 rfl rfl ?_
        refine g_iload_n X dX7_tryDoor_31 rfl 1 rfl rfl ?_
        refine g_iload_n X dX7_tryDoor_32 rfl 2 rfl rfl ?_
        refine g_callVRs (n := 2) (As := [_, _]) (rest := []) X (c_X7_leadsBy l D _ _ _ _ _ _ _ _ _ _ _ _ _ _ _ _ _  (gq) (dq) (by omega) (by omega)) gX7_tryDoor_X7_leadsBy rfl (by decide +kernel) ⟨Nat.le_of_ble_eq_true rfl, Nat.le_of_ble_eq_true rfl⟩ rfl rfl  rfl rfl (Nat.le_of_ble_eq_true rfl) dX7_tryDoor_33 ⟨Nat.le_of_ble_eq_true rfl, Nat.le_of_ble_eq_true rfl⟩ rfl (fun v hv => ?_)
        obtain rfl := hv
        refine g_st (st' := [_]) rfl ?_
        refine g_iload_n X dX7_tryDoor_36 rfl 3 rfl rfl ?_
        refine g_icmp_ne X dX7_tryDoor_37 42 (by decide) rfl (fun h37 => ?_) (fun h37 => ?_)
        · refine g_aload_n X dX7_tryDoor_42 rfl 0 rfl rfl ?_
          refine gM_get_at X dX7_tryDoor_43 hinX70 hl7 rfl ?_
          refine g_bipush (v := (16 : Int32)) X dX7_tryDoor_46 (by decide) rfl ?_
          refine g_bipush (v := (10 : Int32)) X dX7_tryDoor_48 (by decide) rfl ?_
          refine g_iload_n X dX7_tryDoor_50 rfl 1 rfl rfl ?_
          refine g_imul X dX7_tryDoor_51 rfl ?_
          refine g_topi (y := nI (10 * gq)) (pk_mul (10) (gq)) ?_
          refine g_iadd X dX7_tryDoor_52 rfl ?_
          refine g_topi (y := nI (16 + (10 * gq))) (nI_add (16) ((10 * gq))) ?_
          refine g_iload_n X dX7_tryDoor_53 rfl 2 rfl rfl ?_
          refine g_iadd X dX7_tryDoor_54 rfl ?_
          refine g_topi (y := nI ((16 + (10 * gq)) + dq)) (nI_add ((16 + (10 * gq))) (dq)) ?_
          refine g_iload_n X dX7_tryDoor_55 rfl 3 rfl rfl ?_
          refine gM_st_at X rfl dX7_tryDoor_56 (by first | rfl | assumption) (by omega) rfl ?_
          have hnn1 : (up fa (16 + 10 * gq + dq) sx) 90 = nI nn := by rw [up_n _ _ (by omega)]; exact hnn
          refine g_aload_n X dX7_tryDoor_57 rfl 0 rfl rfl ?_
          refine g_iload_n X dX7_tryDoor_58 rfl 1 rfl rfl ?_
          refine g_iload_n X dX7_tryDoor_59 rfl 2 rfl rfl ?_
          refine g_callVWs (n := 2) (As := [_, _]) (rest := []) X hAg rfl (c_X7_wipeOfDoor l D _ _ _ _ _ _ _ _ _ _ _ _ _ _ _ _ _  nn hnn1 (by omega) _ _) gX7_tryDoor_X7_wipeOfDoor rfl (by decide +kernel) ⟨Nat.le_of_ble_eq_true rfl, Nat.le_of_ble_eq_true rfl⟩ rfl rfl  rfl rfl (Nat.le_of_ble_eq_true rfl) dX7_tryDoor_60 ⟨Nat.le_of_ble_eq_true rfl, Nat.le_of_ble_eq_true rfl⟩ rfl (fun v w hv => ?_)
          obtain ⟨rfl, rfl⟩ := hv
          refine ⟨rfl, ?_⟩
          refine g_st (st' := [_]) rfl ?_
          refine g_retW X hr (by first | rfl | exact b2i_nar _) dX7_tryDoor_63 hAe ?_
          exact tryPost_ok (by first | (simp [doorS, *]; done) | (subst h11; simp [doorS, *]; done)) (wkN_ge (by omega))
        · refine g_iconst (v := (0 : Int32)) X dX7_tryDoor_40 (by decide) rfl ?_
          refine g_retW X hr (by first | rfl | exact b2i_nar _) dX7_tryDoor_41 hAe ?_
          exact tryPost_ok (by first | (simp [doorS, *]; done) | (subst h11; simp [doorS, *]; done) | (simp_all [doorS]; done)) (by decide)
      · replace h19 := b2i_0 h19
        refine g_iconst (v := ((-1) : Int32)) X dX7_tryDoor_22 (by decide) rfl ?_
        refine g_retW X hr (by first | rfl | exact b2i_nar _) dX7_tryDoor_23 hAe ?_
        exact tryPost_err (by first | (simp [doorS, rtOK, *]; done) | (simp_all [doorS, rtOK]; done)) (by decide)

set_option maxHeartbeats 4000000 in
set_option maxRecDepth 100000 in
theorem c_X7_door (l : Launch) (D : DT) (a : Nat → Nat) (fa fp fs fv fg fw fd ft fn : Nat → Int32) (wk : Int32) (dm : Int32) (sp : Int32) (iw : Int32) (od : Int32) (i1 km : Nat) (hi1 : i1 < 6) (hm : km ≤ 6) (mk nn b : Nat) (hW : WF fa mk nn b) (g d sx : Int32) : MW l yX7_door wsX7_door 4 87 0 0 D [.ref (a 0), .int g, .int d, .int sx] (wM D a fa fp fs fv fg fw fd ft fn (nI i1) (nI km) wk dm sp iw od) (tryPost D a fp fs fv fd ft fn i1 km dm sp iw od true fa (doorS fa g d sx)) := by
  refine MW.of (cc := cX7_door) (maxL := 4) (ret := (some .int)) (lv := [(0, .ref (a 0)), (1, .int g), (2, .int d), (3, .int sx)]) (by decide +kernel) rfl (Nat.le_of_ble_eq_true rfl) rfl ?_
  intro p e s m below meth c A hAe hAg X hr hmn
  have hinX70 : ∀ w ∈ wsX70, w ∈ wsX7_door := fun w h => List.mem_cons_of_mem _ (List.mem_append_right _ h)
  refine g_aload_n X dX7_door_0 rfl 0 rfl rfl ?_
  refine g_iload_n X dX7_door_1 rfl 1 rfl rfl ?_
  refine g_iload_n X dX7_door_2 rfl 2 rfl rfl ?_
  refine g_iload_n X dX7_door_3 rfl 3 rfl rfl ?_
  refine g_iconst (v := (1 : Int32)) X dX7_door_4 (by decide) rfl ?_
  refine g_callVWs (n := 4) (As := [_, _, _, _]) (rest := []) X hAg rfl (c_X7_tryDoor l D _ _ _ _ _ _ _ _ _ _ _ _ _ _ _  i1 km hi1 hm mk nn b hW g d sx true) gX7_door_X7_tryDoor rfl (by decide +kernel) ⟨Nat.le_of_ble_eq_true rfl, Nat.le_of_ble_eq_true rfl⟩ rfl rfl  rfl rfl (Nat.le_of_ble_eq_true rfl) dX7_door_5 ⟨Nat.le_of_ble_eq_true rfl, Nat.le_of_ble_eq_true rfl⟩ rfl (fun v w hv => ?_)
  obtain ⟨fg1, fw1, wk1, rfl, rfl⟩ := hv
  refine ⟨rfl, ?_⟩
  refine g_st (st' := [_]) rfl ?_
  refine g_retW X hr (by first | rfl | exact b2i_nar _) dX7_door_8 hAe ?_
  exact ⟨fg1, fw1, wk1, rfl, rfl⟩
