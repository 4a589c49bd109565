set_option maxHeartbeats 4000000 in
set_option maxRecDepth 100000 in
theorem c_X7_undo (l : Launch) (D : DT) (a : Nat → Nat) (fa fp fs fv fg fw fd ft fn : Nat → Int32) (wk : Int32) (dm : Int32) (sp : Int32) (iw : Int32) (od : Int32) (i1 km : Nat) (hi1 : i1 < 6) (hm : km ≤ 6) : MW l yX7_undo wsX7_undo 0 0 0 0 D [.ref (a 0)] (wM D a fa fp fs fv fg fw fd ft fn (nI i1) (nI km) wk dm sp iw od) (fun v w => if km = 0 then v = some (.int (-5)) ∧ w = (wM D a fa fp fs fv fg fw fd ft fn (nI i1) (nI km) wk dm sp iw od) else v = some (.int (nI (km - 1))) ∧ w = (wM D a (unI fp fa ((i1 + (km - 1)) % 6) 407) fp fs fv fg fw fd ft fn (nI i1) (nI (km - 1)) wk dm sp iw od)) := by
  refine MW.of (cc := cX7_undo) (maxL := 3) (ret := (some .int)) (lv := [(0, .ref (a 0))]) (by decide +kernel) rfl (Nat.le_of_ble_eq_true rfl) rfl ?_
  intro p e s m below meth c A hAe hAg X hr hmn
  have hinX70 : ∀ w ∈ wsX70, w ∈ wsX7_undo := fun w h => List.mem_cons_of_mem _ (List.mem_append_right _ h)
  have hl46 := List.mem_of_getElem? (l := wsX7_undo) (i := 1) rfl
  have hl50 := List.mem_of_getElem? (l := wsX7_undo) (i := 2) rfl
  have hl7 := List.mem_of_getElem? (l := wsX7_undo) (i := 3) rfl
  have hl13 := List.mem_of_getElem? (l := wsX7_undo) (i := 4) rfl
  refine g_aload_n X dX7_undo_0 rfl 0 rfl rfl ?_
  refine gM_get_pastMany X dX7_undo_1 hinX70 hl46 rfl ?_
  refine g_if_ne X dX7_undo_4 10 (by decide) rfl (fun h4 => ?_) (fun h4 => ?_)
  · have i4 := nj_ne (a := km) (b := 0) (by omega) (by omega) h4
    refine g_aload_n X dX7_undo_10 rfl 0 rfl rfl ?_
    refine g_dup X dX7_undo_11 rfl rfl ?_
    refine gM_get_pastMany X dX7_undo_12 hinX70 hl46 rfl ?_
    refine g_iconst (v := (1 : Int32)) X dX7_undo_15 (by decide) rfl ?_
    refine g_isub X dX7_undo_16 rfl ?_
    refine g_topi (pk_sub (a := km) (b := 1) (by omega)) ?_
    refine gM_put_pastMany X rfl dX7_undo_17 hinX70 hl46 rfl ?_
    refine g_aload_n X dX7_undo_20 rfl 0 rfl rfl ?_
    refine gM_get_pastFirst X dX7_undo_21 hinX70 hl50 rfl ?_
    refine g_aload_n X dX7_undo_24 rfl 0 rfl rfl ?_
    refine gM_get_pastMany X dX7_undo_25 hinX70 hl46 rfl ?_
    refine g_iadd X dX7_undo_28 rfl ?_
    refine g_topi (y := nI (i1 + (km - 1))) (nI_add (i1) ((km - 1))) ?_
    refine g_bipush (v := (6 : Int32)) X dX7_undo_29 (by decide) rfl ?_
    refine g_irem X dX7_undo_31 (by decide) rfl ?_
    refine g_topi (pk_rem (a := i1 + (km - 1)) (d := 6) (by omega) (by omega) (by omega)) ?_
    refine g_istore_n X [(1, _), (0, _)] dX7_undo_32 rfl (by decide) rfl rfl ?_
    refine g_iconst (v := (0 : Int32)) X dX7_undo_33 (by decide) rfl ?_
    refine g_istore_n X [(2, _), (1, _), (0, _)] dX7_undo_34 rfl (by decide) rfl rfl ?_
    have L35 : ∀ (n : Nat) (i : Nat) (hi : i ≤ 407) (hn : 407 - i = n), GG p l e (wRoom 0 0 0 0) s m ([.ref (a 0)] : List Value).toArray below meth c D A 3 false 0 0 (MQ below (wrQ D (wM D a fa fp fs fv fg fw fd ft fn (nI i1) (nI km) wk dm sp iw od) s.heap.size (fun v w => if km = 0 then v = some (.int (-5)) ∧ w = (wM D a fa fp fs fv fg fw fd ft fn (nI i1) (nI km) wk dm sp iw od) else v = some (.int (nI (km - 1))) ∧ w = (wM D a (unI fp fa ((i1 + (km - 1)) % 6) 407) fp fs fv fg fw fd ft fn (nI i1) (nI (km - 1)) wk dm sp iw od))) ([.ref (a 0)] : List Value).toArray s 0 0 (va_A (wM D a fa fp fs fv fg fw fd ft fn (nI i1) (nI km) wk dm sp iw od) s.heap.size)) (wM D a (unI fp fa ((i1 + (km - 1)) % 6) i) fp fs fv fg fw fd ft fn (nI i1) (nI (km - 1)) wk dm sp iw od) 35 [(2, .int (nI i)), (1, .int (nI ((i1 + (km - 1)) % 6))), (0, .ref (a 0))] [] := by
      intro n
      induction n using Nat.strongRecOn with
      | _ n ih =>
      intro i hi hn
      refine g_iload_n X dX7_undo_35 rfl 0 rfl rfl ?_
      refine g_sipush (v := (407 : Int32)) X dX7_undo_36 (by decide) rfl ?_
      refine g_icmp_ge X dX7_undo_39 66 (by decide) rfl (fun h39 => ?_) (fun h39 => ?_)
      · have i39 := nj_le (a := 407) (b := i) (by omega) (by omega) h39
        refine g_aload_n X dX7_undo_66 rfl 2 rfl rfl ?_
        refine gM_get_pastMany X dX7_undo_67 hinX70 hl46 rfl ?_
        refine g_retW X hr (by first | rfl | exact b2i_nar _) dX7_undo_70 hAe ?_
        have hii : i = 407 := by omega
        subst hii
        rw [if_neg i4]
        exact ⟨rfl, rfl⟩
      · have i39 := nj_nle (a := 407) (b := i) (by omega) (by omega) h39
        refine g_aload_n X dX7_undo_42 rfl 2 rfl rfl ?_
        refine gM_get_at X dX7_undo_43 hinX70 hl7 rfl ?_
        refine g_iload_n X dX7_undo_46 rfl 0 rfl rfl ?_
        refine g_aload_n X dX7_undo_47 rfl 2 rfl rfl ?_
        refine gM_get_past X dX7_undo_48 hinX70 hl13 rfl ?_
        refine g_sipush (v := (407 : Int32)) X dX7_undo_51 (by decide) rfl ?_
        refine g_iload_n X dX7_undo_54 rfl 1 rfl rfl ?_
        refine g_imul X dX7_undo_55 rfl ?_
        refine g_topi (y := nI (407 * ((i1 + (km - 1)) % 6))) (pk_mul (407) (((i1 + (km - 1)) % 6))) ?_
        refine g_iload_n X dX7_undo_56 rfl 0 rfl rfl ?_
        refine g_iadd X dX7_undo_57 rfl ?_
        refine g_topi (y := nI ((407 * ((i1 + (km - 1)) % 6)) + i)) (nI_add ((407 * ((i1 + (km - 1)) % 6))) (i)) ?_
        refine gM_ld_past X dX7_undo_58 (by first | rfl | assumption) (by omega) rfl ?_
        refine gM_st_at X rfl dX7_undo_59 (by first | rfl | assumption) (by omega) rfl ?_
        refine g_iinc (v := nI (i + 1)) X [(2, _), (1, _), (0, _)] dX7_undo_60 0 rfl (nI_add (i) 1) (by decide) rfl rfl ?_
        refine g_goto X dX7_undo_63 35 (by decide) ?_
        refine g_ws (wM_fa unI_s) ?_
        exact ih (407 - (i + 1)) (by omega) (i + 1) (by omega) rfl
    refine g_ws (wM_fa (unI_0 fp fa ((i1 + (km - 1)) % 6)).symm) ?_
    exact L35 _ 0 (by omega) rfl
  · have i4 := nj_eq (a := km) (b := 0) (by omega) (by omega) h4
    refine g_bipush (v := ((-5) : Int32)) X dX7_undo_7 (by decide) rfl ?_
    refine g_retW X hr (by first | rfl | exact b2i_nar _) dX7_undo_9 hAe ?_
    rw [if_pos i4]
    exact ⟨rfl, rfl⟩

set_option maxHeartbeats 4000000 in
set_option maxRecDepth 100000 in
theorem c_X7_save (l : Launch) (D : DT) (a : Nat → Nat) (fa fp fs fv fg fw fd ft fn : Nat → Int32) (p1 pm wk dm sp iw od : Int32) (x : Int32) : MW l yX7_save wsX7_save 1 22 0 0 D [.ref (a 0), .int x] (wM D a fa fp fs fv fg fw fd ft fn p1 pm wk dm sp iw od) (fun v w => if rng 2 x = true then v = some (.int (fa 76)) ∧ w = (wM D a fa fp (kpF fa fs x.toNatClampNeg) (up fv x.toNatClampNeg 1) fg fw fd ft fn p1 pm wk dm sp iw od) else v = some (.int (-2)) ∧ w = (wM D a fa fp fs fv fg fw fd ft fn p1 pm wk dm sp iw od)) := by
  refine MW.of (cc := cX7_save) (maxL := 3) (ret := (some .int)) (lv := [(0, .ref (a 0)), (1, .int x)]) (by decide +kernel) rfl (Nat.le_of_ble_eq_true rfl) rfl ?_
  intro p e s m below meth c A hAe hAg X hr hmn
  have hinX70 : ∀ w ∈ wsX70, w ∈ wsX7_save := fun w h => List.mem_cons_of_mem _ (List.mem_append_right _ h)
  have hl16 := List.mem_of_getElem? (l := wsX7_save) (i := 1) rfl
  have hl7 := List.mem_of_getElem? (l := wsX7_save) (i := 2) rfl
  have hl19 := List.mem_of_getElem? (l := wsX7_save) (i := 3) rfl
  have e02 : decide ((0 : Int) ≤ x.toInt ∧ x.toInt ≤ (1 : Int)) = rng 2 x := by unfold rng; exact decide_eq_decide.mpr ⟨fun h => by omega, fun h => by omega⟩
  refine g_iload_n X dX7_save_0 rfl 1 rfl rfl ?_
  refine g_iconst (v := (0 : Int32)) X dX7_save_1 (by decide) rfl ?_
  refine g_iconst (v := (1 : Int32)) X dX7_save_2 (by decide) rfl ?_
  refine g_callSR (n := 3) (As := [_, _, _]) (rest := []) X (c_X7_in l D _ _ _) gX7_save_X7_in rfl (by decide +kernel) ⟨Nat.le_of_ble_eq_true rfl, Nat.le_of_ble_eq_true rfl⟩ [] rfl rfl rfl rfl (Nat.le_of_ble_eq_true rfl) dX7_save_3 ⟨Nat.le_of_ble_eq_true rfl, Nat.le_of_ble_eq_true rfl⟩ rfl (fun v hv => ?_)
  obtain rfl := hv
  refine g_st (st' := [_]) rfl ?_
  refine g_topi (y := b2i (rng 2 x)) (congrArg b2i e02) ?_
  refine g_if_ne X dX7_save_6 12 (by decide) rfl (fun h6 => ?_) (fun h6 => ?_)
  · replace h6 := b2i_n0 h6
    obtain ⟨q, hq, rfl⟩ := rng_nI h6
    have hcx := nI_clamp (n := q) (by omega)
    refine g_iconst (v := (0 : Int32)) X dX7_save_12 (by decide) rfl ?_
    refine g_istore_n X [(2, _), (0, _), (1, _)] dX7_save_13 rfl (by decide) rfl rfl ?_
    have L14 : ∀ (n : Nat) (i : Nat) (hi : i ≤ 407) (hn : 407 - i = n), GG p l e (wRoom 1 22 0 0) s m ([.ref (a 0), .int (nI q)] : List Value).toArray below meth c D A 3 false 0 0 (MQ below (wrQ D (wM D a fa fp fs fv fg fw fd ft fn p1 pm wk dm sp iw od) s.heap.size (fun v w => if rng 2 (nI q) = true then v = some (.int (fa 76)) ∧ w = (wM D a fa fp (kpF fa fs (nI q).toNatClampNeg) (up fv (nI q).toNatClampNeg 1) fg fw fd ft fn p1 pm wk dm sp iw od) else v = some (.int (-2)) ∧ w = (wM D a fa fp fs fv fg fw fd ft fn p1 pm wk dm sp iw od))) ([.ref (a 0), .int (nI q)] : List Value).toArray s 0 0 (va_A (wM D a fa fp fs fv fg fw fd ft fn p1 pm wk dm sp iw od) s.heap.size)) (wM D a fa fp (kpI fa fs q i) fv fg fw fd ft fn p1 pm wk dm sp iw od) 14 [(2, .int (nI i)), (0, .ref (a 0)), (1, .int (nI q))] [] := by
      intro n
      induction n using Nat.strongRecOn with
      | _ n ih =>
      intro i hi hn
      refine g_iload_n X dX7_save_14 rfl 0 rfl rfl ?_
      refine g_sipush (v := (407 : Int32)) X dX7_save_15 (by decide) rfl ?_
      refine g_icmp_ge X dX7_save_18 45 (by decide) rfl (fun h18 => ?_) (fun h18 => ?_)
      · have i18 := nj_le (a := 407) (b := i) (by omega) (by omega) h18
        have hii : i = 407 := by omega
        subst hii
        refine g_aload_n X dX7_save_45 rfl 1 rfl rfl ?_
        refine gM_get_isSaved X dX7_save_46 hinX70 hl19 rfl ?_
        refine g_iload_n X dX7_save_49 rfl 2 rfl rfl ?_
        refine g_iconst (v := (1 : Int32)) X dX7_save_50 (by decide) rfl ?_
        refine gM_st_isSaved X rfl dX7_save_51 (by first | rfl | assumption) (by omega) (by first | rfl | exact b2i_vnar _) rfl ?_
        refine g_aload_n X dX7_save_52 rfl 1 rfl rfl ?_
        refine gM_get_at X dX7_save_53 hinX70 hl7 rfl ?_
        refine g_bipush (v := (76 : Int32)) X dX7_save_56 (by decide) rfl ?_
        refine gM_ld_at X dX7_save_58 (k := 76) rfl (by decide) rfl ?_
        refine g_retW X hr (by first | rfl | exact b2i_nar _) dX7_save_59 hAe ?_
        rw [if_pos h6, hcx]
        exact ⟨rfl, rfl⟩
      · have i18 := nj_nle (a := 407) (b := i) (by omega) (by omega) h18
        refine g_aload_n X dX7_save_21 rfl 1 rfl rfl ?_
        refine gM_get_slots X dX7_save_22 hinX70 hl16 rfl ?_
        refine g_sipush (v := (407 : Int32)) X dX7_save_25 (by decide) rfl ?_
        refine g_iload_n X dX7_save_28 rfl 2 rfl rfl ?_
        refine g_imul X dX7_save_29 rfl ?_
        refine g_topi (y := nI (407 * q)) (pk_mul (407) (q)) ?_
        refine g_iload_n X dX7_save_30 rfl 0 rfl rfl ?_
        refine g_iadd X dX7_save_31 rfl ?_
        refine g_topi (y := nI ((407 * q) + i)) (nI_add ((407 * q)) (i)) ?_
        refine g_aload_n X dX7_save_32 rfl 1 rfl rfl ?_
        refine gM_get_at X dX7_save_33 hinX70 hl7 rfl ?_
        refine g_iload_n X dX7_save_36 rfl 0 rfl rfl ?_
        refine gM_ld_at X dX7_save_37 (by first | rfl | assumption) (by omega) rfl ?_
        refine gM_st_slots X rfl dX7_save_38 (by first | rfl | assumption) (by omega) rfl ?_
        refine g_iinc (v := nI (i + 1)) X [(2, _), (0, _), (1, _)] dX7_save_39 0 rfl (nI_add (i) 1) (by decide) rfl rfl ?_
        refine g_goto X dX7_save_42 14 (by decide) ?_
        refine g_ws (wM_fs kpI_s) ?_
        exact ih (407 - (i + 1)) (by omega) (i + 1) (by omega) rfl
    refine g_ws (wM_fs (kpI_0 fa fs q).symm) ?_
    exact L14 _ 0 (by omega) rfl
  · replace h6 := b2i_0 h6
    refine g_bipush (v := ((-2) : Int32)) X dX7_save_9 (by decide) rfl ?_
    refine g_retW X hr (by first | rfl | exact b2i_nar _) dX7_save_11 hAe ?_
    rw [if_neg (by rw [h6]; exact Bool.false_ne_true)]
    exact ⟨rfl, rfl⟩

set_option maxHeartbeats 4000000 in
set_option maxRecDepth 100000 in
theorem c_X7_restore (l : Launch) (D : DT) (a : Nat → Nat) (fa fp fs fv fg fw fd ft fn : Nat → Int32) (wk : Int32) (dm : Int32) (sp : Int32) (iw : Int32) (od : Int32) (i1 km : Nat) (hi1 : i1 < 6) (hm : km ≤ 6) (sv : Nat → Bool) (hsv : ∀ q, q < 2 → fv q = b2i (sv q)) (x : Int32) : MW l yX7_restore wsX7_restore 1 22 0 0 D [.ref (a 0), .int x] (wM D a fa fp fs fv fg fw fd ft fn (nI i1) (nI km) wk dm sp iw od) (fun v w => if rng 2 x = true then (if sv x.toNatClampNeg = true then v = some (.int (fs (407 * x.toNatClampNeg + 76))) ∧ w = (wM D a (unI fs fa x.toNatClampNeg 407) (kF true fa fp i1 km) fs fv fg fw fd ft fn (nI (kA true i1 km)) (nI (kM true km)) wk dm sp iw od) else v = some (.int (-5)) ∧ w = (wM D a fa fp fs fv fg fw fd ft fn (nI i1) (nI km) wk dm sp iw od)) else v = some (.int (-2)) ∧ w = (wM D a fa fp fs fv fg fw fd ft fn (nI i1) (nI km) wk dm sp iw od)) := by
  refine MW.of (cc := cX7_restore) (maxL := 3) (ret := (some .int)) (lv := [(0, .ref (a 0)), (1, .int x)]) (by decide +kernel) rfl (Nat.le_of_ble_eq_true rfl) rfl ?_
  intro p e s m below meth c A hAe hAg X hr hmn
  have hinX70 : ∀ w ∈ wsX70, w ∈ wsX7_restore := fun w h => List.mem_cons_of_mem _ (List.mem_append_right _ h)
  have hl19 := List.mem_of_getElem? (l := wsX7_restore) (i := 1) rfl
  have hl7 := List.mem_of_getElem? (l := wsX7_restore) (i := 2) rfl
  have hl16 := List.mem_of_getElem? (l := wsX7_restore) (i := 3) rfl
  have e02 : decide ((0 : Int) ≤ x.toInt ∧ x.toInt ≤ (1 : Int)) = rng 2 x := by unfold rng; exact decide_eq_decide.mpr ⟨fun h => by omega, fun h => by omega⟩
  refine g_iload_n X dX7_restore_0 rfl 1 rfl rfl ?_
  refine g_iconst (v := (0 : Int32)) X dX7_restore_1 (by decide) rfl ?_
  refine g_iconst (v := (1 : Int32)) X dX7_restore_2 (by decide) rfl ?_
  refine g_callSR (n := 3) (As := [_, _, _]) (rest := []) X (c_X7_in l D _ _ _) gX7_restore_X7_in rfl (by decide +kernel) ⟨Nat.le_of_ble_eq_true rfl, Nat.le_of_ble_eq_true rfl⟩ [] rfl rfl rfl rfl (Nat.le_of_ble_eq_true rfl) dX7_restore_3 ⟨Nat.le_of_ble_eq_true rfl, Nat.le_of_ble_eq_true rfl⟩ rfl (fun v hv => ?_)
  obtain rfl := hv
  refine g_st (st' := [_]) rfl ?_
  refine g_topi (y := b2i (rng 2 x)) (congrArg b2i e02) ?_
  refine g_if_ne X dX7_restore_6 12 (by decide) rfl (fun h6 => ?_) (fun h6 => ?_)
  · replace h6 := b2i_n0 h6
    obtain ⟨q, hq, rfl⟩ := rng_nI h6
    have hcx := nI_clamp (n := q) (by omega)
    refine g_aload_n X dX7_restore_12 rfl 0 rfl rfl ?_
    refine gM_get_isSaved X dX7_restore_13 hinX70 hl19 rfl ?_
    refine g_iload_n X dX7_restore_16 rfl 1 rfl rfl ?_
    refine gM_ld_isSaved X dX7_restore_17 (by first | rfl | assumption) (by omega) rfl ?_
    refine g_topi (hsv q hq) ?_
    refine g_if_ne X dX7_restore_18 24 (by decide) rfl (fun h18 => ?_) (fun h18 => ?_)
    · replace h18 := b2i_n0 h18
      refine g_aload_n X dX7_restore_24 rfl 0 rfl rfl ?_
      refine g_callVWs (n := 0) (As := []) (rest := []) X hAg rfl (c_X7_keep l D _ _ _ _ _ _ _ _ _ _ _ _ _ _ _  i1 km hi1 hm) gX7_restore_X7_keep rfl (by decide +kernel) ⟨Nat.le_of_ble_eq_true rfl, Nat.le_of_ble_eq_true rfl⟩ rfl rfl  rfl rfl (Nat.le_of_ble_eq_true rfl) dX7_restore_25 ⟨Nat.le_of_ble_eq_true rfl, Nat.le_of_ble_eq_true rfl⟩ rfl (fun v w hv => ?_)
      obtain ⟨rfl, rfl⟩ := hv
      refine ⟨rfl, ?_⟩
      refine g_st (st' := []) rfl ?_
      refine g_iconst (v := (0 : Int32)) X dX7_restore_28 (by decide) rfl ?_
      refine g_istore_n X [(2, _), (0, _), (1, _)] dX7_restore_29 rfl (by decide) rfl rfl ?_
      have L30 : ∀ (n : Nat) (i : Nat) (hi : i ≤ 407) (hn : 407 - i = n), GG p l e (wRoom 1 22 0 0) s m ([.ref (a 0), .int (nI q)] : List Value).toArray below meth c D A 3 false 0 0 (MQ below (wrQ D (wM D a fa fp fs fv fg fw fd ft fn (nI i1) (nI km) wk dm sp iw od) s.heap.size (fun v w => if rng 2 (nI q) = true then (if sv (nI q).toNatClampNeg = true then v = some (.int (fs (407 * (nI q).toNatClampNeg + 76))) ∧ w = (wM D a (unI fs fa (nI q).toNatClampNeg 407) (kF true fa fp i1 km) fs fv fg fw fd ft fn (nI (kA true i1 km)) (nI (kM true km)) wk dm sp iw od) else v = some (.int (-5)) ∧ w = (wM D a fa fp fs fv fg fw fd ft fn (nI i1) (nI km) wk dm sp iw od)) else v = some (.int (-2)) ∧ w = (wM D a fa fp fs fv fg fw fd ft fn (nI i1) (nI km) wk dm sp iw od))) ([.ref (a 0), .int (nI q)] : List Value).toArray s 0 0 (va_A (wM D a fa fp fs fv fg fw fd ft fn (nI i1) (nI km) wk dm sp iw od) s.heap.size)) (wM D a (unI fs fa q i) (kF true fa fp i1 km) fs fv fg fw fd ft fn (nI (kA true i1 km)) (nI (kM true km)) wk dm sp iw od) 30 [(2, .int (nI i)), (0, .ref (a 0)), (1, .int (nI q))] [] := by
        intro n
        induction n using Nat.strongRecOn with
        | _ n ih =>
        intro i hi hn
        refine g_iload_n X dX7_restore_30 rfl 0 rfl rfl ?_
        refine g_sipush (v := (407 : Int32)) X dX7_restore_31 (by decide) rfl ?_
        refine g_icmp_ge X dX7_restore_34 61 (by decide) rfl (fun h34 => ?_) (fun h34 => ?_)
        · have i34 := nj_le (a := 407) (b := i) (by omega) (by omega) h34
          have hii : i = 407 := by omega
          subst hii
          refine g_aload_n X dX7_restore_61 rfl 1 rfl rfl ?_
          refine gM_get_at X dX7_restore_62 hinX70 hl7 rfl ?_
          refine g_bipush (v := (76 : Int32)) X dX7_restore_65 (by decide) rfl ?_
          refine gM_ld_at X dX7_restore_67 (k := 76) rfl (by decide) rfl ?_
          refine g_retW X hr (by first | rfl | exact b2i_nar _) dX7_restore_68 hAe ?_
          rw [if_pos h6, hcx, if_pos h18]
          exact ⟨congrArg (fun x => some (Value.int x)) (if_pos (by omega)), rfl⟩
        · have i34 := nj_nle (a := 407) (b := i) (by omega) (by omega) h34
          refine g_aload_n X dX7_restore_37 rfl 1 rfl rfl ?_
          refine gM_get_at X dX7_restore_38 hinX70 hl7 rfl ?_
          refine g_iload_n X dX7_restore_41 rfl 0 rfl rfl ?_
          refine g_aload_n X dX7_restore_42 rfl 1 rfl rfl ?_
          refine gM_get_slots X dX7_restore_43 hinX70 hl16 rfl ?_
          refine g_sipush (v := (407 : Int32)) X dX7_restore_46 (by decide) rfl ?_
          refine g_iload_n X dX7_restore_49 rfl 2 rfl rfl ?_
          refine g_imul X dX7_restore_50 rfl ?_
          refine g_topi (y := nI (407 * q)) (pk_mul (407) (q)) ?_
          refine g_iload_n X dX7_restore_51 rfl 0 rfl rfl ?_
          refine g_iadd X dX7_restore_52 rfl ?_
          refine g_topi (y := nI ((407 * q) + i)) (nI_add ((407 * q)) (i)) ?_
          refine gM_ld_slots X dX7_restore_53 (by first | rfl | assumption) (by omega) rfl ?_
          refine gM_st_at X rfl dX7_restore_54 (by first | rfl | assumption) (by omega) rfl ?_
          refine g_iinc (v := nI (i + 1)) X [(2, _), (0, _), (1, _)] dX7_restore_55 0 rfl (nI_add (i) 1) (by decide) rfl rfl ?_
          refine g_goto X dX7_restore_58 30 (by decide) ?_
          refine g_ws (wM_fa unI_s) ?_
          exact ih (407 - (i + 1)) (by omega) (i + 1) (by omega) rfl
      refine g_ws (wM_fa (unI_0 fs fa q).symm) ?_
      exact L30 _ 0 (by omega) rfl
    · replace h18 := b2i_0 h18
      refine g_bipush (v := ((-5) : Int32)) X dX7_restore_21 (by decide) rfl ?_
      refine g_retW X hr (by first | rfl | exact b2i_nar _) dX7_restore_23 hAe ?_
      rw [if_pos h6, hcx, if_neg (by rw [h18]; exact Bool.false_ne_true)]
      exact ⟨rfl, rfl⟩
  · replace h6 := b2i_0 h6
    refine g_bipush (v := ((-2) : Int32)) X dX7_restore_9 (by decide) rfl ?_
    refine g_retW X hr (by first | rfl | exact b2i_nar _) dX7_restore_11 hAe ?_
    rw [if_neg (by rw [h6]; exact Bool.false_ne_true)]
    exact ⟨rfl, rfl⟩

set_option maxHeartbeats 4000000 in
set_option maxRecDepth 100000 in
theorem c_X7_wipe (l : Launch) (D : DT) (a : Nat → Nat) (fa fp fs fv fg fw fd ft fn : Nat → Int32) (p1 pm wk dm sp iw od : Int32) : MW l yX7_wipe wsX7_wipe 0 0 0 0 D [.ref (a 0)] (wM D a fa fp fs fv fg fw fd ft fn p1 pm wk dm sp iw od) (fun v w => v = some (.int dm) ∧ w = (wM D a fa fp fs fv fg fw fd ft fn p1 pm wk 0 sp iw od)) := by
  refine MW.of (cc := cX7_wipe) (maxL := 2) (ret := (some .int)) (lv := [(0, .ref (a 0))]) (by decide +kernel) rfl (Nat.le_of_ble_eq_true rfl) rfl ?_
  intro p e s m below meth c A hAe hAg X hr hmn
  have hinX70 : ∀ w ∈ wsX70, w ∈ wsX7_wipe := fun w h => List.mem_cons_of_mem _ (List.mem_append_right _ h)
  have hl184 := List.mem_of_getElem? (l := wsX7_wipe) (i := 1) rfl
  refine g_aload_n X dX7_wipe_0 rfl 0 rfl rfl ?_
  refine gM_get_padMany X dX7_wipe_1 hinX70 hl184 rfl ?_
  refine g_istore_n X [(1, _), (0, _)] dX7_wipe_4 rfl (by decide) rfl rfl ?_
  refine g_aload_n X dX7_wipe_5 rfl 1 rfl rfl ?_
  refine g_iconst (v := (0 : Int32)) X dX7_wipe_6 (by decide) rfl ?_
  refine gM_put_padMany X rfl dX7_wipe_7 hinX70 hl184 rfl ?_
  refine g_iload_n X dX7_wipe_10 rfl 0 rfl rfl ?_
  refine g_retW X hr (by first | rfl | exact b2i_nar _) dX7_wipe_11 hAe ?_
  exact ⟨rfl, rfl⟩

set_option maxHeartbeats 4000000 in
set_option maxRecDepth 100000 in
theorem c_X7_next (l : Launch) (D : DT) (a : Nat → Nat) (fa fp fs fv fg fw fd ft fn : Nat → Int32) (p1 : Int32) (pm : Int32) (wk : Int32) (L pos o : Nat) (w : Bool) (hL : L ≤ 80) (hs : pos ≤ L) (ho : o < 28) : MR l yX7_next wsX7_next 0 0 D [.ref (a 0)] (wM D a fa fp fs fv fg fw fd ft fn p1 pm wk (nI L) (nI pos) (b2i w) (nI o)) (fun v => v = some (.int (nx fd L pos))) := by
  refine MR.of (cc := cX7_next) (maxL := 1) (ret := (some .int)) (lv := [(0, .ref (a 0))]) (by decide +kernel) rfl (Nat.le_of_ble_eq_true rfl) rfl ?_
  intro p e s m below meth c A X hr hmn
  have hinX70 : ∀ w ∈ wsX70, w ∈ wsX7_next := fun w h => List.mem_cons_of_mem _ (List.mem_append_right _ h)
  have hl194 := List.mem_of_getElem? (l := wsX7_next) (i := 1) rfl
  have hl184 := List.mem_of_getElem? (l := wsX7_next) (i := 2) rfl
  have hl29 := List.mem_of_getElem? (l := wsX7_next) (i := 3) rfl
  refine g_aload_n X dX7_next_0 rfl 0 rfl rfl ?_
  refine gM_get_spot X dX7_next_1 hinX70 hl194 rfl ?_
  refine g_aload_n X dX7_next_4 rfl 0 rfl rfl ?_
  refine gM_get_padMany X dX7_next_5 hinX70 hl184 rfl ?_
  refine g_icmp_ge X dX7_next_8 23 (by decide) rfl (fun h8 => ?_) (fun h8 => ?_)
  · have i8 := nj_le (a := L) (b := pos) (by omega) (by omega) h8
    refine g_iconst (v := (0 : Int32)) X dX7_next_23 (by decide) rfl ?_
    refine g_retR X hr (by first | rfl | exact b2i_nar _) dX7_next_24 ?_
    exact congrArg (fun x => some (Value.int x)) (by unfold nx; first | rw [if_pos i8] | rw [if_neg (by omega)])
  · have i8 := nj_nle (a := L) (b := pos) (by omega) (by omega) h8
    refine g_aload_n X dX7_next_11 rfl 0 rfl rfl ?_
    refine gM_get_pad X dX7_next_12 hinX70 hl29 rfl ?_
    refine g_aload_n X dX7_next_15 rfl 0 rfl rfl ?_
    refine gM_get_spot X dX7_next_16 hinX70 hl194 rfl ?_
    refine gM_ld_pad X dX7_next_19 (by first | rfl | assumption) (by omega) rfl ?_
    refine g_goto X dX7_next_20 24 (by decide) ?_
    refine g_retR X hr (by first | rfl | exact b2i_nar _) dX7_next_24 ?_
    exact congrArg (fun x => some (Value.int x)) (by unfold nx; first | rw [if_pos i8] | rw [if_neg (by omega)])

set_option maxHeartbeats 4000000 in
set_option maxRecDepth 100000 in
theorem c_X7_lay (l : Launch) (D : DT) (a : Nat → Nat) (fa fp fs fv fg fw fd ft fn : Nat → Int32) (p1 : Int32) (pm : Int32) (wk : Int32) (L pos o : Nat) (w : Bool) (hL : L ≤ 80) (hs : pos ≤ L) (ho : o < 28) (pl : Nat) (hpl : pl < 4) (v : Int32) : MW l yX7_lay wsX7_lay 0 0 0 0 D [.ref (a 0), .int (nI pl), .int v] (wM D a fa fp fs fv fg fw fd ft fn p1 pm wk (nI L) (nI pos) (b2i w) (nI o)) (fun v2 w2 => v2 = none ∧ w2 = (wM D a fa fp fs fv fg fw fd ft (up fn (4 * o + pl) v) p1 pm wk (nI L) (nI pos) (b2i w) (nI o))) := by
  refine MW.of (cc := cX7_lay) (maxL := 3) (ret := none) (lv := [(0, .ref (a 0)), (1, .int (nI pl)), (2, .int v)]) (by decide +kernel) rfl (Nat.le_of_ble_eq_true rfl) rfl ?_
  intro p e s m below meth c A hAe hAg X hr hmn
  have hinX70 : ∀ w ∈ wsX70, w ∈ wsX7_lay := fun w h => List.mem_cons_of_mem _ (List.mem_append_right _ h)
  have hl35 := List.mem_of_getElem? (l := wsX7_lay) (i := 1) rfl
  have hl197 := List.mem_of_getElem? (l := wsX7_lay) (i := 2) rfl
  refine g_aload_n X dX7_lay_0 rfl 0 rfl rfl ?_
  refine gM_get_numbers X dX7_lay_1 hinX70 hl35 rfl ?_
  refine g_iconst (v := (4 : Int32)) X dX7_lay_4 (by decide) rfl ?_
  refine g_aload_n X dX7_lay_5 rfl 0 rfl rfl ?_
  refine gM_get_orders X dX7_lay_6 hinX70 hl197 rfl ?_
  refine g_imul X dX7_lay_9 rfl ?_
  refine g_topi (y := nI (4 * o)) (pk_mul (4) (o)) ?_
  refine g_iload_n X dX7_lay_10 rfl 1 rfl rfl ?_
  refine g_iadd X dX7_lay_11 rfl ?_
  refine g_topi (y := nI ((4 * o) + pl)) (nI_add ((4 * o)) (pl)) ?_
  refine g_iload_n X dX7_lay_12 rfl 2 rfl rfl ?_
  refine gM_st_numbers X rfl dX7_lay_13 (by first | rfl | assumption) (by omega) rfl ?_
  refine g_vretW X hr dX7_lay_14 hAe ?_
  exact ⟨rfl, rfl⟩

set_option maxHeartbeats 4000000 in
set_option maxRecDepth 100000 in
theorem c_X7_takeSign (l : Launch) (D : DT) (a : Nat → Nat) (fa fp fs fv fg fw fd ft fn : Nat → Int32) (p1 : Int32) (pm : Int32) (wk : Int32) (L pos o : Nat) (w : Bool) (hL : L ≤ 80) (hs : pos ≤ L) (ho : o < 28) (ch : Int32) (hc0 : ¬ ch = 0) : MW l yX7_takeSign wsX7_takeSign 1 20 0 0 D [.ref (a 0), .int ch] (wM D a fa fp fs fv fg fw fd ft fn p1 pm wk (nI L) (nI pos) (b2i w) (nI o)) (fun v w2 => v = none ∧ w2 = (wM D a fa fp fs fv fg fw fd ft fn p1 pm wk (nI L) (nI (tSign fd L ch pos w).1) (b2i (tSign fd L ch pos w).2) (nI o)) ∧ (tSign fd L ch pos w).1 ≤ L) := by
  refine MW.of (cc := cX7_takeSign) (maxL := 2) (ret := none) (lv := [(0, .ref (a 0)), (1, .int ch)]) (by decide +kernel) rfl (Nat.le_of_ble_eq_true rfl) rfl ?_
  intro p e s m below meth c A hAe hAg X hr hmn
  have hinX70 : ∀ w ∈ wsX70, w ∈ wsX7_takeSign := fun w h => List.mem_cons_of_mem _ (List.mem_append_right _ h)
  have hl200 := List.mem_of_getElem? (l := wsX7_takeSign) (i := 1) rfl
  have hl194 := List.mem_of_getElem? (l := wsX7_takeSign) (i := 2) rfl
  refine g_aload_n X dX7_takeSign_0 rfl 0 rfl rfl ?_
  refine g_aload_n X dX7_takeSign_1 rfl 0 rfl rfl ?_
  refine gM_get_isWrong X dX7_takeSign_2 hinX70 hl200 rfl ?_
  refine g_if_ne X dX7_takeSign_5 16 (by decide) rfl (fun h5 => ?_) (fun h5 => ?_)
  · replace h5 := b2i_n0 h5
    refine g_iconst (v := (1 : Int32)) X dX7_takeSign_16 (by decide) rfl ?_
    refine g_goto X dX7_takeSign_17 21 (by decide) ?_
    refine gM_put_isWrong X rfl dX7_takeSign_21 hinX70 hl200 (by first | rfl | exact b2i_nar _) (by first | rfl | exact b2i_fit _) rfl ?_
    refine g_aload_n X dX7_takeSign_24 rfl 0 rfl rfl ?_
    refine g_dup X dX7_takeSign_25 rfl rfl ?_
    refine gM_get_spot X dX7_takeSign_26 hinX70 hl194 rfl ?_
    refine g_aload_n X dX7_takeSign_29 rfl 0 rfl rfl ?_
    refine gM_get_isWrong X dX7_takeSign_30 hinX70 hl200 rfl ?_
    refine g_if_eq X dX7_takeSign_33 40 (by decide) rfl (fun h33 => absurd h33 (by decide)) (fun h33 => ?_)
    refine g_iconst (v := (0 : Int32)) X dX7_takeSign_36 (by decide) rfl ?_
    refine g_goto X dX7_takeSign_37 41 (by decide) ?_
    refine g_iadd X dX7_takeSign_41 rfl ?_
    refine g_topi (y := nI (pos + 0)) (nI_add (pos) (0)) ?_
    refine gM_put_spot X rfl dX7_takeSign_42 hinX70 hl194 rfl ?_
    refine g_vretW X hr dX7_takeSign_45 hAe ?_
    first
    | (have hT : tSign fd L ch pos w = (pos, true) := by unfold tSign; rw [if_pos (by first | exact Or.inl h5 | exact Or.inr h13)]
       rw [hT]; exact ⟨rfl, rfl, hs⟩)
    | (have hT : tSign fd L ch pos w = (pos + 1, false) := by unfold tSign; rw [if_neg (by rintro (z | z); exact absurd (h5.symm.trans z) (by decide); exact z h13)]
       have hlt : pos < L := by
         rcases Nat.lt_or_ge pos L with q | q
         · exact q
         · exact absurd (by rw [← h13]; unfold nx; rw [if_neg (by omega)]) hc0
       rw [hT]; exact ⟨rfl, rfl, hlt⟩)
  · replace h5 := b2i_0 h5
    refine g_aload_n X dX7_takeSign_8 rfl 0 rfl rfl ?_
    refine g_callVRs (n := 0) (As := []) (rest := [_]) X (c_X7_next l D _ _ _ _ _ _ _ _ _ _ _ _ _  L pos o w hL hs ho) gX7_takeSign_X7_next rfl (by decide +kernel) ⟨Nat.le_of_ble_eq_true rfl, Nat.le_of_ble_eq_true rfl⟩ rfl rfl  rfl rfl (Nat.le_of_ble_eq_true rfl) dX7_takeSign_9 ⟨Nat.le_of_ble_eq_true rfl, Nat.le_of_ble_eq_true rfl⟩ rfl (fun v hv => ?_)
    obtain rfl := hv
    refine g_st (st' := [_, _]) rfl ?_
    refine g_iload_n X dX7_takeSign_12 rfl 1 rfl rfl ?_
    refine g_icmp_eq X dX7_takeSign_13 20 (by decide) rfl (fun h13 => ?_) (fun h13 => ?_)
    · refine g_iconst (v := (0 : Int32)) X dX7_takeSign_20 (by decide) rfl ?_
      refine gM_put_isWrong X rfl dX7_takeSign_21 hinX70 hl200 (by first | rfl | exact b2i_nar _) (by first | rfl | exact b2i_fit _) rfl ?_
      refine g_aload_n X dX7_takeSign_24 rfl 0 rfl rfl ?_
      refine g_dup X dX7_takeSign_25 rfl rfl ?_
      refine gM_get_spot X dX7_takeSign_26 hinX70 hl194 rfl ?_
      refine g_aload_n X dX7_takeSign_29 rfl 0 rfl rfl ?_
      refine gM_get_isWrong X dX7_takeSign_30 hinX70 hl200 rfl ?_
      refine g_if_eq X dX7_takeSign_33 40 (by decide) rfl (fun h33 => ?_) (fun h33 => absurd h33 (by decide))
      refine g_iconst (v := (1 : Int32)) X dX7_takeSign_40 (by decide) rfl ?_
      refine g_iadd X dX7_takeSign_41 rfl ?_
      refine g_topi (y := nI (pos + 1)) (nI_add (pos) (1)) ?_
      refine gM_put_spot X rfl dX7_takeSign_42 hinX70 hl194 rfl ?_
      refine g_vretW X hr dX7_takeSign_45 hAe ?_
      first
      | (have hT : tSign fd L ch pos w = (pos, true) := by unfold tSign; rw [if_pos (by first | exact Or.inl h5 | exact Or.inr h13)]
         rw [hT]; exact ⟨rfl, rfl, hs⟩)
      | (have hT : tSign fd L ch pos w = (pos + 1, false) := by unfold tSign; rw [if_neg (by rintro (z | z); exact absurd (h5.symm.trans z) (by decide); exact z h13)]
         have hlt : pos < L := by
           rcases Nat.lt_or_ge pos L with q | q
           · exact q
           · exact absurd (by rw [← h13]; unfold nx; rw [if_neg (by omega)]) hc0
         rw [hT]; exact ⟨rfl, rfl, hlt⟩)
    · refine g_iconst (v := (1 : Int32)) X dX7_takeSign_16 (by decide) rfl ?_
      refine g_goto X dX7_takeSign_17 21 (by decide) ?_
      refine gM_put_isWrong X rfl dX7_takeSign_21 hinX70 hl200 (by first | rfl | exact b2i_nar _) (by first | rfl | exact b2i_fit _) rfl ?_
      refine g_aload_n X dX7_takeSign_24 rfl 0 rfl rfl ?_
      refine g_dup X dX7_takeSign_25 rfl rfl ?_
      refine gM_get_spot X dX7_takeSign_26 hinX70 hl194 rfl ?_
      refine g_aload_n X dX7_takeSign_29 rfl 0 rfl rfl ?_
      refine gM_get_isWrong X dX7_takeSign_30 hinX70 hl200 rfl ?_
      refine g_if_eq X dX7_takeSign_33 40 (by decide) rfl (fun h33 => absurd h33 (by decide)) (fun h33 => ?_)
      refine g_iconst (v := (0 : Int32)) X dX7_takeSign_36 (by decide) rfl ?_
      refine g_goto X dX7_takeSign_37 41 (by decide) ?_
      refine g_iadd X dX7_takeSign_41 rfl ?_
      refine g_topi (y := nI (pos + 0)) (nI_add (pos) (0)) ?_
      refine gM_put_spot X rfl dX7_takeSign_42 hinX70 hl194 rfl ?_
      refine g_vretW X hr dX7_takeSign_45 hAe ?_
      first
      | (have hT : tSign fd L ch pos w = (pos, true) := by unfold tSign; rw [if_pos (by first | exact Or.inl h5 | exact Or.inr h13)]
         rw [hT]; exact ⟨rfl, rfl, hs⟩)
      | (have hT : tSign fd L ch pos w = (pos + 1, false) := by unfold tSign; rw [if_neg (by rintro (z | z); exact absurd (h5.symm.trans z) (by decide); exact z h13)]
         have hlt : pos < L := by
           rcases Nat.lt_or_ge pos L with q | q
           · exact q
           · exact absurd (by rw [← h13]; unfold nx; rw [if_neg (by omega)]) hc0
         rw [hT]; exact ⟨rfl, rfl, hlt⟩)

set_option maxHeartbeats 4000000 in
set_option maxRecDepth 100000 in
theorem c_X7_takeOne (l : Launch) (D : DT) (a : Nat → Nat) (fa fp fs fv fg fw fd ft fn : Nat → Int32) (p1 : Int32) (pm : Int32) (wk : Int32) (L pos o : Nat) (w : Bool) (hL : L ≤ 80) (hs : pos ≤ L) (ho : o < 28) (pl : Nat) (hpl : pl < 4) (lo hi : Int32) (h0 : inB 0 lo hi = false) : MW l yX7_takeOne wsX7_takeOne 1 22 0 0 D [.ref (a 0), .int (nI pl), .int lo, .int hi] (wM D a fa fp fs fv fg fw fd ft fn p1 pm wk (nI L) (nI pos) (b2i w) (nI o)) (fun v w2 => v = none ∧ w2 = (wM D a fa fp fs fv fg fw fd ft (tOne fd L o pl lo hi pos w fn).2.2 p1 pm wk (nI L) (nI (tOne fd L o pl lo hi pos w fn).1) (b2i (tOne fd L o pl lo hi pos w fn).2.1) (nI o)) ∧ (tOne fd L o pl lo hi pos w fn).1 ≤ L) := by
  refine MW.of (cc := cX7_takeOne) (maxL := 4) (ret := none) (lv := [(0, .ref (a 0)), (1, .int (nI pl)), (2, .int lo), (3, .int hi)]) (by decide +kernel) rfl (Nat.le_of_ble_eq_true rfl) rfl ?_
  intro p e s m below meth c A hAe hAg X hr hmn
  have hinX70 : ∀ w ∈ wsX70, w ∈ wsX7_takeOne := fun w h => List.mem_cons_of_mem _ (List.mem_append_right _ h)
  have hl200 := List.mem_of_getElem? (l := wsX7_takeOne) (i := 1) rfl
  have hl194 := List.mem_of_getElem? (l := wsX7_takeOne) (i := 2) rfl
  refine g_aload_n X dX7_takeOne_0 rfl 0 rfl rfl ?_
  refine g_aload_n X dX7_takeOne_1 rfl 0 rfl rfl ?_
  refine gM_get_isWrong X dX7_takeOne_2 hinX70 hl200 rfl ?_
  refine g_if_ne X dX7_takeOne_5 20 (by decide) rfl (fun h5 => ?_) (fun h5 => ?_)
  · replace h5 := b2i_n0 h5
    refine g_iconst (v := (1 : Int32)) X dX7_takeOne_20 (by decide) rfl ?_
    refine g_goto X dX7_takeOne_21 25 (by decide) ?_
    refine gM_put_isWrong X rfl dX7_takeOne_25 hinX70 hl200 (by first | rfl | exact b2i_nar _) (by first | rfl | exact b2i_fit _) rfl ?_
    refine g_aload_n X dX7_takeOne_28 rfl 0 rfl rfl ?_
    refine gM_get_isWrong X dX7_takeOne_29 hinX70 hl200 rfl ?_
    refine g_if_ne X dX7_takeOne_32 57 (by decide) rfl (fun h32 => ?_) (fun h32 => absurd h32 (by decide))
    refine g_vretW X hr dX7_takeOne_57 hAe ?_
    first
    | (have hT : tOne fd L o pl lo hi pos w fn = (pos, true, fn) := by unfold tOne; rw [if_pos (by first | exact Or.inl h5 | exact Or.inr h17)]
       rw [hT]; exact ⟨rfl, rfl, hs⟩)
    | (have hT : tOne fd L o pl lo hi pos w fn = (pos + 1, false, up fn (4 * o + pl) (nx fd L pos - 48)) := by unfold tOne; rw [if_neg (by rintro (z | z); exact absurd (h5.symm.trans z) (by decide); exact absurd (Eq.trans (Eq.symm h17) z) (by decide))]
       rw [hT]; exact ⟨rfl, rfl, hlt⟩)
  · replace h5 := b2i_0 h5
    refine g_aload_n X dX7_takeOne_8 rfl 0 rfl rfl ?_
    refine g_callVRs (n := 0) (As := []) (rest := [_]) X (c_X7_next l D _ _ _ _ _ _ _ _ _ _ _ _ _  L (pos) o w hL (by omega) ho ) gX7_takeOne_X7_next rfl (by decide +kernel) ⟨Nat.le_of_ble_eq_true rfl, Nat.le_of_ble_eq_true rfl⟩ rfl rfl  rfl rfl (Nat.le_of_ble_eq_true rfl) dX7_takeOne_9 ⟨Nat.le_of_ble_eq_true rfl, Nat.le_of_ble_eq_true rfl⟩ rfl (fun v hv => ?_)
    obtain rfl := hv
    refine g_st (st' := [_, _]) rfl ?_
    refine g_iload_n X dX7_takeOne_12 rfl 2 rfl rfl ?_
    refine g_iload_n X dX7_takeOne_13 rfl 3 rfl rfl ?_
    refine g_callSR (n := 3) (As := [_, _, _]) (rest := [_]) X (c_X7_in l D _ _ _) gX7_takeOne_X7_in rfl (by decide +kernel) ⟨Nat.le_of_ble_eq_true rfl, Nat.le_of_ble_eq_true rfl⟩ [] rfl rfl rfl rfl (Nat.le_of_ble_eq_true rfl) dX7_takeOne_14 ⟨Nat.le_of_ble_eq_true rfl, Nat.le_of_ble_eq_true rfl⟩ rfl (fun v hv => ?_)
    obtain rfl := hv
    refine g_st (st' := [_, _]) rfl ?_
    refine g_if_ne X dX7_takeOne_17 24 (by decide) rfl (fun h17 => ?_) (fun h17 => ?_)
    · replace h17 := b2i_n0 h17
      refine g_iconst (v := (0 : Int32)) X dX7_takeOne_24 (by decide) rfl ?_
      refine gM_put_isWrong X rfl dX7_takeOne_25 hinX70 hl200 (by first | rfl | exact b2i_nar _) (by first | rfl | exact b2i_fit _) rfl ?_
      refine g_aload_n X dX7_takeOne_28 rfl 0 rfl rfl ?_
      refine gM_get_isWrong X dX7_takeOne_29 hinX70 hl200 rfl ?_
      refine g_if_ne X dX7_takeOne_32 57 (by decide) rfl (fun h32 => absurd h32 (by decide)) (fun h32 => ?_)
      have hlt : pos < L := nx_lt (fun z => by have z2 : inB (nx fd L pos) lo hi = true := h17; rw [z, h0] at z2; exact Bool.false_ne_true z2)
      refine g_aload_n X dX7_takeOne_35 rfl 0 rfl rfl ?_
      refine g_iload_n X dX7_takeOne_36 rfl 1 rfl rfl ?_
      refine g_aload_n X dX7_takeOne_37 rfl 0 rfl rfl ?_
      refine g_callVRs (n := 0) (As := []) (rest := [_, _]) X (c_X7_next l D _ _ _ _ _ _ _ _ _ _ _ _ _  L (pos) o false hL (by omega) ho ) gX7_takeOne_X7_next rfl (by decide +kernel) ⟨Nat.le_of_ble_eq_true rfl, Nat.le_of_ble_eq_true rfl⟩ rfl rfl  rfl rfl (Nat.le_of_ble_eq_true rfl) dX7_takeOne_38 ⟨Nat.le_of_ble_eq_true rfl, Nat.le_of_ble_eq_true rfl⟩ rfl (fun v hv => ?_)
      obtain rfl := hv
      refine g_st (st' := [_, _, _]) rfl ?_
      refine g_bipush (v := (48 : Int32)) X dX7_takeOne_41 (by decide) rfl ?_
      refine g_isub X dX7_takeOne_43 rfl ?_
      refine g_callVWs (n := 2) (As := [_, _]) (rest := []) X hAg rfl (c_X7_lay l D _ _ _ _ _ _ _ _ _ _ _ _ _  L (pos) o false hL (by omega) ho (pl) (by omega) _) gX7_takeOne_X7_lay rfl (by decide +kernel) ⟨Nat.le_of_ble_eq_true rfl, Nat.le_of_ble_eq_true rfl⟩ rfl rfl  rfl rfl (Nat.le_of_ble_eq_true rfl) dX7_takeOne_44 ⟨Nat.le_of_ble_eq_true rfl, Nat.le_of_ble_eq_true rfl⟩ rfl (fun v w hv => ?_)
      obtain ⟨rfl, rfl⟩ := hv
      refine ⟨rfl, ?_⟩
      refine g_st (st' := []) rfl ?_
      refine g_aload_n X dX7_takeOne_47 rfl 0 rfl rfl ?_
      refine g_dup X dX7_takeOne_48 rfl rfl ?_
      refine gM_get_spot X dX7_takeOne_49 hinX70 hl194 rfl ?_
      refine g_iconst (v := (1 : Int32)) X dX7_takeOne_52 (by decide) rfl ?_
      refine g_iadd X dX7_takeOne_53 rfl ?_
      refine g_topi (y := nI (pos + 1)) (nI_add (pos) (1)) ?_
      refine gM_put_spot X rfl dX7_takeOne_54 hinX70 hl194 rfl ?_
      refine g_vretW X hr dX7_takeOne_57 hAe ?_
      first
      | (have hT : tOne fd L o pl lo hi pos w fn = (pos, true, fn) := by unfold tOne; rw [if_pos (by first | exact Or.inl h5 | exact Or.inr h17)]
         rw [hT]; exact ⟨rfl, rfl, hs⟩)
      | (have hT : tOne fd L o pl lo hi pos w fn = (pos + 1, false, up fn (4 * o + pl) (nx fd L pos - 48)) := by unfold tOne; rw [if_neg (by rintro (z | z); exact absurd (h5.symm.trans z) (by decide); exact absurd (Eq.trans (Eq.symm h17) z) (by decide))]
         rw [hT]; exact ⟨rfl, rfl, hlt⟩)
    · replace h17 := b2i_0 h17
      refine g_iconst (v := (1 : Int32)) X dX7_takeOne_20 (by decide) rfl ?_
      refine g_goto X dX7_takeOne_21 25 (by decide) ?_
      refine gM_put_isWrong X rfl dX7_takeOne_25 hinX70 hl200 (by first | rfl | exact b2i_nar _) (by first | rfl | exact b2i_fit _) rfl ?_
      refine g_aload_n X dX7_takeOne_28 rfl 0 rfl rfl ?_
      refine gM_get_isWrong X dX7_takeOne_29 hinX70 hl200 rfl ?_
      refine g_if_ne X dX7_takeOne_32 57 (by decide) rfl (fun h32 => ?_) (fun h32 => absurd h32 (by decide))
      refine g_vretW X hr dX7_takeOne_57 hAe ?_
      first
      | (have hT : tOne fd L o pl lo hi pos w fn = (pos, true, fn) := by unfold tOne; rw [if_pos (by first | exact Or.inl h5 | exact Or.inr h17)]
         rw [hT]; exact ⟨rfl, rfl, hs⟩)
      | (have hT : tOne fd L o pl lo hi pos w fn = (pos + 1, false, up fn (4 * o + pl) (nx fd L pos - 48)) := by unfold tOne; rw [if_neg (by rintro (z | z); exact absurd (h5.symm.trans z) (by decide); exact absurd (Eq.trans (Eq.symm h17) z) (by decide))]
         rw [hT]; exact ⟨rfl, rfl, hlt⟩)

set_option maxHeartbeats 4000000 in
set_option maxRecDepth 100000 in
theorem c_X7_takeNumber (l : Launch) (D : DT) (a : Nat → Nat) (fa fp fs fv fg fw fd ft fn : Nat → Int32) (p1 : Int32) (pm : Int32) (wk : Int32) (L pos o : Nat) (w : Bool) (hL : L ≤ 80) (hs : pos ≤ L) (ho : o < 28) (pl : Nat) (hpl : pl < 4) : MW l yX7_takeNumber wsX7_takeNumber 1 22 0 0 D [.ref (a 0), .int (nI pl)] (wM D a fa fp fs fv fg fw fd ft fn p1 pm wk (nI L) (nI pos) (b2i w) (nI o)) (fun v w2 => v = none ∧ w2 = (wM D a fa fp fs fv fg fw fd ft (tNum fd L o pl pos w fn).2.2 p1 pm wk (nI L) (nI (tNum fd L o pl pos w fn).1) (b2i (tNum fd L o pl pos w fn).2.1) (nI o)) ∧ (tNum fd L o pl pos w fn).1 ≤ L) := by
  refine MW.of (cc := cX7_takeNumber) (maxL := 3) (ret := none) (lv := [(0, .ref (a 0)), (1, .int (nI pl))]) (by decide +kernel) rfl (Nat.le_of_ble_eq_true rfl) rfl ?_
  intro p e s m below meth c A hAe hAg X hr hmn
  have hinX70 : ∀ w ∈ wsX70, w ∈ wsX7_takeNumber := fun w h => List.mem_cons_of_mem _ (List.mem_append_right _ h)
  have hl200 := List.mem_of_getElem? (l := wsX7_takeNumber) (i := 1) rfl
  have hl194 := List.mem_of_getElem? (l := wsX7_takeNumber) (i := 2) rfl
  refine g_aload_n X dX7_takeNumber_0 rfl 0 rfl rfl ?_
  refine g_aload_n X dX7_takeNumber_1 rfl 0 rfl rfl ?_
  refine gM_get_isWrong X dX7_takeNumber_2 hinX70 hl200 rfl ?_
  refine g_if_ne X dX7_takeNumber_5 22 (by decide) rfl (fun h5 => ?_) (fun h5 => ?_)
  · replace h5 := b2i_n0 h5
    refine g_iconst (v := (1 : Int32)) X dX7_takeNumber_22 (by decide) rfl ?_
    refine g_goto X dX7_takeNumber_23 27 (by decide) ?_
    refine gM_put_isWrong X rfl dX7_takeNumber_27 hinX70 hl200 (by first | rfl | exact b2i_nar _) (by first | rfl | exact b2i_fit _) rfl ?_
    refine g_aload_n X dX7_takeNumber_30 rfl 0 rfl rfl ?_
    refine gM_get_isWrong X dX7_takeNumber_31 hinX70 hl200 rfl ?_
    refine g_if_eq X dX7_takeNumber_34 38 (by decide) rfl (fun h34 => absurd h34 (by decide)) (fun h34 => ?_)
    refine g_vretW X hr dX7_takeNumber_37 hAe ?_
    have hT : tNum fd L o pl pos w fn = (pos, true, fn) := by unfold tNum; rw [if_pos (by first | exact Or.inl h5 | exact Or.inr h19)]
    rw [hT]; exact ⟨rfl, rfl, hs⟩
  · replace h5 := b2i_0 h5
    refine g_aload_n X dX7_takeNumber_8 rfl 0 rfl rfl ?_
    refine g_callVRs (n := 0) (As := []) (rest := [_]) X (c_X7_next l D _ _ _ _ _ _ _ _ _ _ _ _ _  L (pos) o w hL (by omega) ho ) gX7_takeNumber_X7_next rfl (by decide +kernel) ⟨Nat.le_of_ble_eq_true rfl, Nat.le_of_ble_eq_true rfl⟩ rfl rfl  rfl rfl (Nat.le_of_ble_eq_true rfl) dX7_takeNumber_9 ⟨Nat.le_of_ble_eq_true rfl, Nat.le_of_ble_eq_true rfl⟩ rfl (fun v hv => ?_)
    obtain rfl := hv
    refine g_st (st' := [_, _]) rfl ?_
    refine g_bipush (v := (48 : Int32)) X dX7_takeNumber_12 (by decide) rfl ?_
    refine g_bipush (v := (57 : Int32)) X dX7_takeNumber_14 (by decide) rfl ?_
    refine g_callSR (n := 3) (As := [_, _, _]) (rest := [_]) X (c_X7_in l D _ _ _) gX7_takeNumber_X7_in rfl (by decide +kernel) ⟨Nat.le_of_ble_eq_true rfl, Nat.le_of_ble_eq_true rfl⟩ [] rfl rfl rfl rfl (Nat.le_of_ble_eq_true rfl) dX7_takeNumber_16 ⟨Nat.le_of_ble_eq_true rfl, Nat.le_of_ble_eq_true rfl⟩ rfl (fun v hv => ?_)
    obtain rfl := hv
    refine g_st (st' := [_, _]) rfl ?_
    refine g_if_ne X dX7_takeNumber_19 26 (by decide) rfl (fun h19 => ?_) (fun h19 => ?_)
    · replace h19 := b2i_n0 h19
      refine g_iconst (v := (0 : Int32)) X dX7_takeNumber_26 (by decide) rfl ?_
      refine gM_put_isWrong X rfl dX7_takeNumber_27 hinX70 hl200 (by first | rfl | exact b2i_nar _) (by first | rfl | exact b2i_fit _) rfl ?_
      refine g_aload_n X dX7_takeNumber_30 rfl 0 rfl rfl ?_
      refine gM_get_isWrong X dX7_takeNumber_31 hinX70 hl200 rfl ?_
      refine g_if_eq X dX7_takeNumber_34 38 (by decide) rfl (fun h34 => ?_) (fun h34 => absurd h34 (by decide))
      have hp0 : pos < L := nx_dg h19
      refine g_aload_n X dX7_takeNumber_38 rfl 0 rfl rfl ?_
      refine g_callVRs (n := 0) (As := []) (rest := []) X (c_X7_next l D _ _ _ _ _ _ _ _ _ _ _ _ _  L (pos) o false hL (by omega) ho ) gX7_takeNumber_X7_next rfl (by decide +kernel) ⟨Nat.le_of_ble_eq_true rfl, Nat.le_of_ble_eq_true rfl⟩ rfl rfl  rfl rfl (Nat.le_of_ble_eq_true rfl) dX7_takeNumber_39 ⟨Nat.le_of_ble_eq_true rfl, Nat.le_of_ble_eq_true rfl⟩ rfl (fun v hv => ?_)
      obtain rfl := hv
      refine g_st (st' := [_]) rfl ?_
      refine g_bipush (v := (48 : Int32)) X dX7_takeNumber_42 (by decide) rfl ?_
      refine g_isub X dX7_takeNumber_44 rfl ?_
      refine g_istore_n X [(2, _), (0, _), (1, _)] dX7_takeNumber_45 rfl (by decide) rfl rfl ?_
      refine g_aload_n X dX7_takeNumber_46 rfl 1 rfl rfl ?_
      refine g_dup X dX7_takeNumber_47 rfl rfl ?_
      refine gM_get_spot X dX7_takeNumber_48 hinX70 hl194 rfl ?_
      refine g_iconst (v := (1 : Int32)) X dX7_takeNumber_51 (by decide) rfl ?_
      refine g_iadd X dX7_takeNumber_52 rfl ?_
      refine g_topi (y := nI (pos + 1)) (nI_add (pos) (1)) ?_
      refine gM_put_spot X rfl dX7_takeNumber_53 hinX70 hl194 rfl ?_
      have hp1 : pos < L := nx_dg h19
      refine g_aload_n X dX7_takeNumber_56 rfl 1 rfl rfl ?_
      refine gM_get_isWrong X dX7_takeNumber_57 hinX70 hl200 rfl ?_
      refine g_if_ne X dX7_takeNumber_60 155 (by decide) rfl (fun h60 => absurd h60 (by decide)) (fun h60 => ?_)
      refine g_iload_n X dX7_takeNumber_63 rfl 0 rfl rfl ?_
      refine g_if_le X dX7_takeNumber_64 155 (by decide) rfl (fun h64 => ?_) (fun h64 => ?_)
      · have i64 : _ ≤ (0 : Int) := ic_le h64
        refine g_aload_n X dX7_takeNumber_155 rfl 1 rfl rfl ?_
        refine g_iload_n X dX7_takeNumber_156 rfl 2 rfl rfl ?_
        refine g_iload_n X dX7_takeNumber_157 rfl 0 rfl rfl ?_
        refine g_callVWs (n := 2) (As := [_, _]) (rest := []) X hAg rfl (c_X7_lay l D _ _ _ _ _ _ _ _ _ _ _ _ _  L ((pos + 1)) o false hL (by omega) ho (pl) (by omega) _) gX7_takeNumber_X7_lay rfl (by decide +kernel) ⟨Nat.le_of_ble_eq_true rfl, Nat.le_of_ble_eq_true rfl⟩ rfl rfl  rfl rfl (Nat.le_of_ble_eq_true rfl) dX7_takeNumber_158 ⟨Nat.le_of_ble_eq_true rfl, Nat.le_of_ble_eq_true rfl⟩ rfl (fun v w hv => ?_)
        obtain ⟨rfl, rfl⟩ := hv
        refine ⟨rfl, ?_⟩
        refine g_st (st' := []) rfl ?_
        refine g_vretW X hr dX7_takeNumber_161 hAe ?_
        have hT : tNum fd L o pl pos w fn = (pos + 1, false, up fn (4 * o + pl) (nx fd L pos - 48)) := by unfold tNum; rw [if_neg (by rintro (z | z); exact absurd (h5.symm.trans z) (by decide); exact absurd (Eq.trans (Eq.symm h19) z) (by decide)), if_pos (by first | exact Or.inl (dg_48 h19 h64) | exact Or.inr h78)]
        rw [hT]; exact ⟨rfl, rfl, hp1⟩
      · have i64 : (0 : Int) < _ := ic_nle h64
        refine g_aload_n X dX7_takeNumber_67 rfl 1 rfl rfl ?_
        refine g_callVRs (n := 0) (As := []) (rest := []) X (c_X7_next l D _ _ _ _ _ _ _ _ _ _ _ _ _  L ((pos + 1)) o false hL (by omega) ho ) gX7_takeNumber_X7_next rfl (by decide +kernel) ⟨Nat.le_of_ble_eq_true rfl, Nat.le_of_ble_eq_true rfl⟩ rfl rfl  rfl rfl (Nat.le_of_ble_eq_true rfl) dX7_takeNumber_68 ⟨Nat.le_of_ble_eq_true rfl, Nat.le_of_ble_eq_true rfl⟩ rfl (fun v hv => ?_)
        obtain rfl := hv
        refine g_st (st' := [_]) rfl ?_
        refine g_bipush (v := (48 : Int32)) X dX7_takeNumber_71 (by decide) rfl ?_
        refine g_bipush (v := (57 : Int32)) X dX7_takeNumber_73 (by decide) rfl ?_
        refine g_callSR (n := 3) (As := [_, _, _]) (rest := []) X (c_X7_in l D _ _ _) gX7_takeNumber_X7_in rfl (by decide +kernel) ⟨Nat.le_of_ble_eq_true rfl, Nat.le_of_ble_eq_true rfl⟩ [] rfl rfl rfl rfl (Nat.le_of_ble_eq_true rfl) dX7_takeNumber_75 ⟨Nat.le_of_ble_eq_true rfl, Nat.le_of_ble_eq_true rfl⟩ rfl (fun v hv => ?_)
        obtain rfl := hv
        refine g_st (st' := [_]) rfl ?_
        refine g_if_eq X dX7_takeNumber_78 155 (by decide) rfl (fun h78 => ?_) (fun h78 => ?_)
        · replace h78 := b2i_0 h78
          refine g_aload_n X dX7_takeNumber_155 rfl 1 rfl rfl ?_
          refine g_iload_n X dX7_takeNumber_156 rfl 2 rfl rfl ?_
          refine g_iload_n X dX7_takeNumber_157 rfl 0 rfl rfl ?_
          refine g_callVWs (n := 2) (As := [_, _]) (rest := []) X hAg rfl (c_X7_lay l D _ _ _ _ _ _ _ _ _ _ _ _ _  L ((pos + 1)) o false hL (by omega) ho (pl) (by omega) _) gX7_takeNumber_X7_lay rfl (by decide +kernel) ⟨Nat.le_of_ble_eq_true rfl, Nat.le_of_ble_eq_true rfl⟩ rfl rfl  rfl rfl (Nat.le_of_ble_eq_true rfl) dX7_takeNumber_158 ⟨Nat.le_of_ble_eq_true rfl, Nat.le_of_ble_eq_true rfl⟩ rfl (fun v w hv => ?_)
          obtain ⟨rfl, rfl⟩ := hv
          refine ⟨rfl, ?_⟩
          refine g_st (st' := []) rfl ?_
          refine g_vretW X hr dX7_takeNumber_161 hAe ?_
          have hT : tNum fd L o pl pos w fn = (pos + 1, false, up fn (4 * o + pl) (nx fd L pos - 48)) := by unfold tNum; rw [if_neg (by rintro (z | z); exact absurd (h5.symm.trans z) (by decide); exact absurd (Eq.trans (Eq.symm h19) z) (by decide)), if_pos (by first | exact Or.inl (dg_48 h19 h64) | exact Or.inr h78)]
          rw [hT]; exact ⟨rfl, rfl, hp1⟩
        · replace h78 := b2i_n0 h78
          refine g_aload_n X dX7_takeNumber_81 rfl 1 rfl rfl ?_
          refine g_bipush (v := (10 : Int32)) X dX7_takeNumber_82 (by decide) rfl ?_
          refine g_iload_n X dX7_takeNumber_84 rfl 0 rfl rfl ?_
          refine g_imul X dX7_takeNumber_85 rfl ?_
          refine g_aload_n X dX7_takeNumber_86 rfl 1 rfl rfl ?_
          refine g_callVRs (n := 0) (As := []) (rest := [_, _]) X (c_X7_next l D _ _ _ _ _ _ _ _ _ _ _ _ _  L ((pos + 1)) o false hL (by omega) ho ) gX7_takeNumber_X7_next rfl (by decide +kernel) ⟨Nat.le_of_ble_eq_true rfl, Nat.le_of_ble_eq_true rfl⟩ rfl rfl  rfl rfl (Nat.le_of_ble_eq_true rfl) dX7_takeNumber_87 ⟨Nat.le_of_ble_eq_true rfl, Nat.le_of_ble_eq_true rfl⟩ rfl (fun v hv => ?_)
          obtain rfl := hv
          refine g_st (st' := [_, _, _]) rfl ?_
          refine g_iadd X dX7_takeNumber_90 rfl ?_
          refine g_bipush (v := (48 : Int32)) X dX7_takeNumber_91 (by decide) rfl ?_
          refine g_isub X dX7_takeNumber_93 rfl ?_
          refine g_bipush (v := (99 : Int32)) X dX7_takeNumber_94 (by decide) rfl ?_
          refine g_icmp_le X dX7_takeNumber_96 103 (by decide) rfl (fun h96 => ?_) (fun h96 => absurd (dg_le h19 h78) h96)
          refine g_iconst (v := (0 : Int32)) X dX7_takeNumber_103 (by decide) rfl ?_
          refine gM_put_isWrong X rfl dX7_takeNumber_104 hinX70 hl200 (by first | rfl | exact b2i_nar _) (by first | rfl | exact b2i_fit _) rfl ?_
          refine g_aload_n X dX7_takeNumber_107 rfl 1 rfl rfl ?_
          refine gM_get_isWrong X dX7_takeNumber_108 hinX70 hl200 rfl ?_
          refine g_if_eq X dX7_takeNumber_111 118 (by decide) rfl (fun h111 => ?_) (fun h111 => absurd h111 (by decide))
          refine g_bipush (v := (10 : Int32)) X dX7_takeNumber_118 (by decide) rfl ?_
          refine g_iload_n X dX7_takeNumber_120 rfl 0 rfl rfl ?_
          refine g_imul X dX7_takeNumber_121 rfl ?_
          refine g_aload_n X dX7_takeNumber_122 rfl 1 rfl rfl ?_
          refine g_callVRs (n := 0) (As := []) (rest := [_]) X (c_X7_next l D _ _ _ _ _ _ _ _ _ _ _ _ _  L ((pos + 1)) o false hL (by omega) ho ) gX7_takeNumber_X7_next rfl (by decide +kernel) ⟨Nat.le_of_ble_eq_true rfl, Nat.le_of_ble_eq_true rfl⟩ rfl rfl  rfl rfl (Nat.le_of_ble_eq_true rfl) dX7_takeNumber_123 ⟨Nat.le_of_ble_eq_true rfl, Nat.le_of_ble_eq_true rfl⟩ rfl (fun v hv => ?_)
          obtain rfl := hv
          refine g_st (st' := [_, _]) rfl ?_
          refine g_iadd X dX7_takeNumber_126 rfl ?_
          refine g_bipush (v := (48 : Int32)) X dX7_takeNumber_127 (by decide) rfl ?_
          refine g_isub X dX7_takeNumber_129 rfl ?_
          refine g_istore_n X [(2, _), (0, _), (1, _)] dX7_takeNumber_130 rfl (by decide) rfl rfl ?_
          refine g_aload_n X dX7_takeNumber_131 rfl 1 rfl rfl ?_
          refine g_dup X dX7_takeNumber_132 rfl rfl ?_
          refine gM_get_spot X dX7_takeNumber_133 hinX70 hl194 rfl ?_
          refine g_aload_n X dX7_takeNumber_136 rfl 1 rfl rfl ?_
          refine gM_get_isWrong X dX7_takeNumber_137 hinX70 hl200 rfl ?_
          refine g_if_eq X dX7_takeNumber_140 147 (by decide) rfl (fun h140 => ?_) (fun h140 => absurd h140 (by decide))
          refine g_iconst (v := (1 : Int32)) X dX7_takeNumber_147 (by decide) rfl ?_
          refine g_iadd X dX7_takeNumber_148 rfl ?_
          refine g_topi (y := nI ((pos + 1) + 1)) (nI_add ((pos + 1)) (1)) ?_
          refine gM_put_spot X rfl dX7_takeNumber_149 hinX70 hl194 rfl ?_
          refine g_goto X dX7_takeNumber_152 56 (by decide) ?_
          have hp2 : pos + 1 < L := nx_dg h78
          refine g_aload_n X dX7_takeNumber_56 rfl 1 rfl rfl ?_
          refine gM_get_isWrong X dX7_takeNumber_57 hinX70 hl200 rfl ?_
          refine g_if_ne X dX7_takeNumber_60 155 (by decide) rfl (fun h60b => absurd h60b (by decide)) (fun h60b => ?_)
          refine g_iload_n X dX7_takeNumber_63 rfl 0 rfl rfl ?_
          refine g_if_le X dX7_takeNumber_64 155 (by decide) rfl (fun h64b => absurd h64b (dg_pos h19 h64 h78)) (fun h64b => ?_)
          refine g_aload_n X dX7_takeNumber_67 rfl 1 rfl rfl ?_
          refine g_callVRs (n := 0) (As := []) (rest := []) X (c_X7_next l D _ _ _ _ _ _ _ _ _ _ _ _ _  L (((pos + 1) + 1)) o false hL (by omega) ho ) gX7_takeNumber_X7_next rfl (by decide +kernel) ⟨Nat.le_of_ble_eq_true rfl, Nat.le_of_ble_eq_true rfl⟩ rfl rfl  rfl rfl (Nat.le_of_ble_eq_true rfl) dX7_takeNumber_68 ⟨Nat.le_of_ble_eq_true rfl, Nat.le_of_ble_eq_true rfl⟩ rfl (fun v hv => ?_)
          obtain rfl := hv
          refine g_st (st' := [_]) rfl ?_
          refine g_bipush (v := (48 : Int32)) X dX7_takeNumber_71 (by decide) rfl ?_
          refine g_bipush (v := (57 : Int32)) X dX7_takeNumber_73 (by decide) rfl ?_
          refine g_callSR (n := 3) (As := [_, _, _]) (rest := []) X (c_X7_in l D _ _ _) gX7_takeNumber_X7_in rfl (by decide +kernel) ⟨Nat.le_of_ble_eq_true rfl, Nat.le_of_ble_eq_true rfl⟩ [] rfl rfl rfl rfl (Nat.le_of_ble_eq_true rfl) dX7_takeNumber_75 ⟨Nat.le_of_ble_eq_true rfl, Nat.le_of_ble_eq_true rfl⟩ rfl (fun v hv => ?_)
          obtain rfl := hv
          refine g_st (st' := [_]) rfl ?_
          refine g_if_eq X dX7_takeNumber_78 155 (by decide) rfl (fun h78b => ?_) (fun h78b => ?_)
          · replace h78b := b2i_0 h78b
            refine g_aload_n X dX7_takeNumber_155 rfl 1 rfl rfl ?_
            refine g_iload_n X dX7_takeNumber_156 rfl 2 rfl rfl ?_
            refine g_iload_n X dX7_takeNumber_157 rfl 0 rfl rfl ?_
            refine g_callVWs (n := 2) (As := [_, _]) (rest := []) X hAg rfl (c_X7_lay l D _ _ _ _ _ _ _ _ _ _ _ _ _  L (((pos + 1) + 1)) o false hL (by omega) ho (pl) (by omega) _) gX7_takeNumber_X7_lay rfl (by decide +kernel) ⟨Nat.le_of_ble_eq_true rfl, Nat.le_of_ble_eq_true rfl⟩ rfl rfl  rfl rfl (Nat.le_of_ble_eq_true rfl) dX7_takeNumber_158 ⟨Nat.le_of_ble_eq_true rfl, Nat.le_of_ble_eq_true rfl⟩ rfl (fun v w hv => ?_)
            obtain ⟨rfl, rfl⟩ := hv
            refine ⟨rfl, ?_⟩
            refine g_st (st' := []) rfl ?_
            refine g_vretW X hr dX7_takeNumber_161 hAe ?_
            have hT : tNum fd L o pl pos w fn = (pos + 2, false, up fn (4 * o + pl) (10 * (nx fd L pos - 48) + nx fd L (pos + 1) - 48)) := by unfold tNum; rw [if_neg (by rintro (z | z); exact absurd (h5.symm.trans z) (by decide); exact absurd (Eq.trans (Eq.symm h19) z) (by decide)), if_neg (by rintro (z | z); exact dg_n48 h64 z; exact absurd (Eq.trans (Eq.symm h78) z) (by decide)), show dgB (nx fd L (pos + 2)) = false from h78b]
            rw [hT]; exact ⟨rfl, rfl, hp2⟩
          · replace h78b := b2i_n0 h78b
            refine g_aload_n X dX7_takeNumber_81 rfl 1 rfl rfl ?_
            refine g_bipush (v := (10 : Int32)) X dX7_takeNumber_82 (by decide) rfl ?_
            refine g_iload_n X dX7_takeNumber_84 rfl 0 rfl rfl ?_
            refine g_imul X dX7_takeNumber_85 rfl ?_
            refine g_aload_n X dX7_takeNumber_86 rfl 1 rfl rfl ?_
            refine g_callVRs (n := 0) (As := []) (rest := [_, _]) X (c_X7_next l D _ _ _ _ _ _ _ _ _ _ _ _ _  L (((pos + 1) + 1)) o false hL (by omega) ho ) gX7_takeNumber_X7_next rfl (by decide +kernel) ⟨Nat.le_of_ble_eq_true rfl, Nat.le_of_ble_eq_true rfl⟩ rfl rfl  rfl rfl (Nat.le_of_ble_eq_true rfl) dX7_takeNumber_87 ⟨Nat.le_of_ble_eq_true rfl, Nat.le_of_ble_eq_true rfl⟩ rfl (fun v hv => ?_)
            obtain rfl := hv
            refine g_st (st' := [_, _, _]) rfl ?_
            refine g_iadd X dX7_takeNumber_90 rfl ?_
            refine g_bipush (v := (48 : Int32)) X dX7_takeNumber_91 (by decide) rfl ?_
            refine g_isub X dX7_takeNumber_93 rfl ?_
            refine g_bipush (v := (99 : Int32)) X dX7_takeNumber_94 (by decide) rfl ?_
            refine g_icmp_le X dX7_takeNumber_96 103 (by decide) rfl (fun h96b => absurd h96b (dg_big h19 h64 h78 h78b)) (fun h96b => ?_)
            refine g_iconst (v := (1 : Int32)) X dX7_takeNumber_99 (by decide) rfl ?_
            refine g_goto X dX7_takeNumber_100 104 (by decide) ?_
            refine gM_put_isWrong X rfl dX7_takeNumber_104 hinX70 hl200 (by first | rfl | exact b2i_nar _) (by first | rfl | exact b2i_fit _) rfl ?_
            refine g_aload_n X dX7_takeNumber_107 rfl 1 rfl rfl ?_
            refine gM_get_isWrong X dX7_takeNumber_108 hinX70 hl200 rfl ?_
            refine g_if_eq X dX7_takeNumber_111 118 (by decide) rfl (fun h111b => absurd h111b (by decide)) (fun h111b => ?_)
            refine g_iload_n X dX7_takeNumber_114 rfl 0 rfl rfl ?_
            refine g_goto X dX7_takeNumber_115 130 (by decide) ?_
            refine g_istore_n X [(2, _), (0, _), (1, _)] dX7_takeNumber_130 rfl (by decide) rfl rfl ?_
            refine g_aload_n X dX7_takeNumber_131 rfl 1 rfl rfl ?_
            refine g_dup X dX7_takeNumber_132 rfl rfl ?_
            refine gM_get_spot X dX7_takeNumber_133 hinX70 hl194 rfl ?_
            refine g_aload_n X dX7_takeNumber_136 rfl 1 rfl rfl ?_
            refine gM_get_isWrong X dX7_takeNumber_137 hinX70 hl200 rfl ?_
            refine g_if_eq X dX7_takeNumber_140 147 (by decide) rfl (fun h140b => absurd h140b (by decide)) (fun h140b => ?_)
            refine g_iconst (v := (0 : Int32)) X dX7_takeNumber_143 (by decide) rfl ?_
            refine g_goto X dX7_takeNumber_144 148 (by decide) ?_
            refine g_iadd X dX7_takeNumber_148 rfl ?_
            refine g_topi (y := nI (((pos + 1) + 1) + 0)) (nI_add (((pos + 1) + 1)) (0)) ?_
            refine gM_put_spot X rfl dX7_takeNumber_149 hinX70 hl194 rfl ?_
            refine g_goto X dX7_takeNumber_152 56 (by decide) ?_
            refine g_aload_n X dX7_takeNumber_56 rfl 1 rfl rfl ?_
            refine gM_get_isWrong X dX7_takeNumber_57 hinX70 hl200 rfl ?_
            refine g_if_ne X dX7_takeNumber_60 155 (by decide) rfl (fun h60c => ?_) (fun h60c => absurd h60c (by decide))
            refine g_aload_n X dX7_takeNumber_155 rfl 1 rfl rfl ?_
            refine g_iload_n X dX7_takeNumber_156 rfl 2 rfl rfl ?_
            refine g_iload_n X dX7_takeNumber_157 rfl 0 rfl rfl ?_
            refine g_callVWs (n := 2) (As := [_, _]) (rest := []) X hAg rfl (c_X7_lay l D _ _ _ _ _ _ _ _ _ _ _ _ _  L ((((pos + 1) + 1) + 0)) o true hL (by omega) ho (pl) (by omega) _) gX7_takeNumber_X7_lay rfl (by decide +kernel) ⟨Nat.le_of_ble_eq_true rfl, Nat.le_of_ble_eq_true rfl⟩ rfl rfl  rfl rfl (Nat.le_of_ble_eq_true rfl) dX7_takeNumber_158 ⟨Nat.le_of_ble_eq_true rfl, Nat.le_of_ble_eq_true rfl⟩ rfl (fun v w hv => ?_)
            obtain ⟨rfl, rfl⟩ := hv
            refine ⟨rfl, ?_⟩
            refine g_st (st' := []) rfl ?_
            refine g_vretW X hr dX7_takeNumber_161 hAe ?_
            have hT : tNum fd L o pl pos w fn = (pos + 2, true, up fn (4 * o + pl) (10 * (nx fd L pos - 48) + nx fd L (pos + 1) - 48)) := by unfold tNum; rw [if_neg (by rintro (z | z); exact absurd (h5.symm.trans z) (by decide); exact absurd (Eq.trans (Eq.symm h19) z) (by decide)), if_neg (by rintro (z | z); exact dg_n48 h64 z; exact absurd (Eq.trans (Eq.symm h78) z) (by decide)), show dgB (nx fd L (pos + 2)) = true from h78b]
            rw [hT]; exact ⟨rfl, rfl, hp2⟩
    · replace h19 := b2i_0 h19
      refine g_iconst (v := (1 : Int32)) X dX7_takeNumber_22 (by decide) rfl ?_
      refine g_goto X dX7_takeNumber_23 27 (by decide) ?_
      refine gM_put_isWrong X rfl dX7_takeNumber_27 hinX70 hl200 (by first | rfl | exact b2i_nar _) (by first | rfl | exact b2i_fit _) rfl ?_
      refine g_aload_n X dX7_takeNumber_30 rfl 0 rfl rfl ?_
      refine gM_get_isWrong X dX7_takeNumber_31 hinX70 hl200 rfl ?_
      refine g_if_eq X dX7_takeNumber_34 38 (by decide) rfl (fun h34 => absurd h34 (by decide)) (fun h34 => ?_)
      refine g_vretW X hr dX7_takeNumber_37 hAe ?_
      have hT : tNum fd L o pl pos w fn = (pos, true, fn) := by unfold tNum; rw [if_pos (by first | exact Or.inl h5 | exact Or.inr h19)]
      rw [hT]; exact ⟨rfl, rfl, hs⟩

set_option maxHeartbeats 4000000 in
set_option maxRecDepth 100000 in
theorem c_X7_takesNone (l : Launch) (D : DT) (a : Nat → Nat) (fa fp fs fv fg fw fd ft fn : Nat → Int32) (p1 : Int32) (pm : Int32) (wk : Int32) (L pos o : Nat) (w : Bool) (hL : L ≤ 80) (hs : pos ≤ L) (ho : o < 28) (pl : Nat) (hpl : pl < 4) : MW l yX7_takesNone wsX7_takesNone 1 22 0 0 D [.ref (a 0), .int (nI pl)] (wM D a fa fp fs fv fg fw fd ft fn p1 pm wk (nI L) (nI pos) (b2i w) (nI o)) (fun v w2 => v = some (.int (b2i (tNoB fd L pos w))) ∧ w2 = (wM D a fa fp fs fv fg fw fd ft (tNo fd L o pl pos w fn).2 p1 pm wk (nI L) (nI (tNo fd L o pl pos w fn).1) (b2i w) (nI o)) ∧ (tNo fd L o pl pos w fn).1 ≤ L) := by
  refine MW.of (cc := cX7_takesNone) (maxL := 3) (ret := (some .boolean)) (lv := [(0, .ref (a 0)), (1, .int (nI pl))]) (by decide +kernel) rfl (Nat.le_of_ble_eq_true rfl) rfl ?_
  intro p e s m below meth c A hAe hAg X hr hmn
  have hinX70 : ∀ w ∈ wsX70, w ∈ wsX7_takesNone := fun w h => List.mem_cons_of_mem _ (List.mem_append_right _ h)
  have hl200 := List.mem_of_getElem? (l := wsX7_takesNone) (i := 1) rfl
  have hl194 := List.mem_of_getElem? (l := wsX7_takesNone) (i := 2) rfl
  refine g_aload_n X dX7_takesNone_0 rfl 0 rfl rfl ?_
  refine gM_get_isWrong X dX7_takesNone_1 hinX70 hl200 rfl ?_
  refine g_if_ne X dX7_takesNone_4 20 (by decide) rfl (fun h4 => ?_) (fun h4 => ?_)
  · replace h4 := b2i_n0 h4
    refine g_iconst (v := (0 : Int32)) X dX7_takesNone_20 (by decide) rfl ?_
    refine g_istore_n X [(2, _), (0, _), (1, _)] dX7_takesNone_21 rfl (by decide) rfl rfl ?_
    refine g_iload_n X dX7_takesNone_22 rfl 0 rfl rfl ?_
    refine g_if_eq X dX7_takesNone_23 43 (by decide) rfl (fun h23 => ?_) (fun h23 => absurd h23 (by decide))
    refine g_iload_n X dX7_takesNone_43 rfl 0 rfl rfl ?_
    refine g_retW X hr (by first | rfl | exact b2i_nar _) dX7_takesNone_44 hAe ?_
    first
    | (have hB : tNoB fd L pos w = true := by unfold tNoB; rw [h4, h13]; rfl
       unfold tNo; rw [hB, if_pos rfl]; exact ⟨rfl, rfl, hp1⟩)
    | (have hB : tNoB fd L pos w = false := by unfold tNoB; first | (rw [h4]; rfl) | (rw [decide_eq_false h13]; exact Bool.and_false _)
       unfold tNo; rw [hB, if_neg Bool.false_ne_true]; exact ⟨rfl, rfl, hs⟩)
  · replace h4 := b2i_0 h4
    refine g_aload_n X dX7_takesNone_7 rfl 0 rfl rfl ?_
    refine g_callVRs (n := 0) (As := []) (rest := []) X (c_X7_next l D _ _ _ _ _ _ _ _ _ _ _ _ _  L (pos) o w hL (by omega) ho ) gX7_takesNone_X7_next rfl (by decide +kernel) ⟨Nat.le_of_ble_eq_true rfl, Nat.le_of_ble_eq_true rfl⟩ rfl rfl  rfl rfl (Nat.le_of_ble_eq_true rfl) dX7_takesNone_8 ⟨Nat.le_of_ble_eq_true rfl, Nat.le_of_ble_eq_true rfl⟩ rfl (fun v hv => ?_)
    obtain rfl := hv
    refine g_st (st' := [_]) rfl ?_
    refine g_bipush (v := (45 : Int32)) X dX7_takesNone_11 (by decide) rfl ?_
    refine g_icmp_ne X dX7_takesNone_13 20 (by decide) rfl (fun h13 => ?_) (fun h13 => ?_)
    · refine g_iconst (v := (0 : Int32)) X dX7_takesNone_20 (by decide) rfl ?_
      refine g_istore_n X [(2, _), (0, _), (1, _)] dX7_takesNone_21 rfl (by decide) rfl rfl ?_
      refine g_iload_n X dX7_takesNone_22 rfl 0 rfl rfl ?_
      refine g_if_eq X dX7_takesNone_23 43 (by decide) rfl (fun h23 => ?_) (fun h23 => absurd h23 (by decide))
      refine g_iload_n X dX7_takesNone_43 rfl 0 rfl rfl ?_
      refine g_retW X hr (by first | rfl | exact b2i_nar _) dX7_takesNone_44 hAe ?_
      first
      | (have hB : tNoB fd L pos w = true := by unfold tNoB; rw [h4, h13]; rfl
         unfold tNo; rw [hB, if_pos rfl]; exact ⟨rfl, rfl, hp1⟩)
      | (have hB : tNoB fd L pos w = false := by unfold tNoB; first | (rw [h4]; rfl) | (rw [decide_eq_false h13]; exact Bool.and_false _)
         unfold tNo; rw [hB, if_neg Bool.false_ne_true]; exact ⟨rfl, rfl, hs⟩)
    · refine g_iconst (v := (1 : Int32)) X dX7_takesNone_16 (by decide) rfl ?_
      refine g_goto X dX7_takesNone_17 21 (by decide) ?_
      refine g_istore_n X [(2, _), (0, _), (1, _)] dX7_takesNone_21 rfl (by decide) rfl rfl ?_
      refine g_iload_n X dX7_takesNone_22 rfl 0 rfl rfl ?_
      refine g_if_eq X dX7_takesNone_23 43 (by decide) rfl (fun h23 => absurd h23 (by decide)) (fun h23 => ?_)
      have hp1 : pos < L := nx_lt (by rw [h13]; decide)
      refine g_aload_n X dX7_takesNone_26 rfl 1 rfl rfl ?_
      refine g_iload_n X dX7_takesNone_27 rfl 2 rfl rfl ?_
      refine g_bipush (v := ((-6) : Int32)) X dX7_takesNone_28 (by decide) rfl ?_
      refine g_callVWs (n := 2) (As := [_, _]) (rest := []) X hAg rfl (c_X7_lay l D _ _ _ _ _ _ _ _ _ _ _ _ _  L (pos) o w hL (by omega) ho (pl) (by omega) _) gX7_takesNone_X7_lay rfl (by decide +kernel) ⟨Nat.le_of_ble_eq_true rfl, Nat.le_of_ble_eq_true rfl⟩ rfl rfl  rfl rfl (Nat.le_of_ble_eq_true rfl) dX7_takesNone_30 ⟨Nat.le_of_ble_eq_true rfl, Nat.le_of_ble_eq_true rfl⟩ rfl (fun v w hv => ?_)
      obtain ⟨rfl, rfl⟩ := hv
      refine ⟨rfl, ?_⟩
      refine g_st (st' := []) rfl ?_
      refine g_aload_n X dX7_takesNone_33 rfl 1 rfl rfl ?_
      refine g_dup X dX7_takesNone_34 rfl rfl ?_
      refine gM_get_spot X dX7_takesNone_35 hinX70 hl194 rfl ?_
      refine g_iconst (v := (1 : Int32)) X dX7_takesNone_38 (by decide) rfl ?_
      refine g_iadd X dX7_takesNone_39 rfl ?_
      refine g_topi (y := nI (pos + 1)) (nI_add (pos) (1)) ?_
      refine gM_put_spot X rfl dX7_takesNone_40 hinX70 hl194 rfl ?_
      refine g_iload_n X dX7_takesNone_43 rfl 0 rfl rfl ?_
      refine g_retW X hr (by first | rfl | exact b2i_nar _) dX7_takesNone_44 hAe ?_
      first
      | (have hB : tNoB fd L pos w = true := by unfold tNoB; rw [h4, h13]; rfl
         unfold tNo; rw [hB, if_pos rfl]; exact ⟨rfl, rfl, hp1⟩)
      | (have hB : tNoB fd L pos w = false := by unfold tNoB; first | (rw [h4]; rfl) | (rw [decide_eq_false h13]; exact Bool.and_false _)
         unfold tNo; rw [hB, if_neg Bool.false_ne_true]; exact ⟨rfl, rfl, hs⟩)

set_option maxHeartbeats 4000000 in
set_option maxRecDepth 100000 in
theorem c_X7_takeNeed (l : Launch) (D : DT) (a : Nat → Nat) (fa fp fs fv fg fw fd ft fn : Nat → Int32) (p1 : Int32) (pm : Int32) (wk : Int32) (L pos o : Nat) (w : Bool) (hL : L ≤ 80) (hs : pos ≤ L) (ho : o < 28) : MW l yX7_takeNeed wsX7_takeNeed 1 22 0 0 D [.ref (a 0)] (wM D a fa fp fs fv fg fw fd ft fn p1 pm wk (nI L) (nI pos) (b2i w) (nI o)) (fun v w2 => v = none ∧ w2 = (wM D a fa fp fs fv fg fw fd ft (tNeed fd L o pos w fn).2.2 p1 pm wk (nI L) (nI (tNeed fd L o pos w fn).1) (b2i (tNeed fd L o pos w fn).2.1) (nI o)) ∧ (tNeed fd L o pos w fn).1 ≤ L) := by
  refine MW.of (cc := cX7_takeNeed) (maxL := 1) (ret := none) (lv := [(0, .ref (a 0))]) (by decide +kernel) rfl (Nat.le_of_ble_eq_true rfl) rfl ?_
  intro p e s m below meth c A hAe hAg X hr hmn
  have hinX70 : ∀ w ∈ wsX70, w ∈ wsX7_takeNeed := fun w h => List.mem_cons_of_mem _ (List.mem_append_right _ h)
  have hl200 := List.mem_of_getElem? (l := wsX7_takeNeed) (i := 1) rfl
  have hl194 := List.mem_of_getElem? (l := wsX7_takeNeed) (i := 2) rfl
  refine g_aload_n X dX7_takeNeed_0 rfl 0 rfl rfl ?_
  refine g_aload_n X dX7_takeNeed_1 rfl 0 rfl rfl ?_
  refine gM_get_isWrong X dX7_takeNeed_2 hinX70 hl200 rfl ?_
  refine g_if_ne X dX7_takeNeed_5 26 (by decide) rfl (fun h5 => ?_) (fun h5 => ?_)
  · replace h5 := b2i_n0 h5
    refine g_iconst (v := (1 : Int32)) X dX7_takeNeed_26 (by decide) rfl ?_
    refine g_goto X dX7_takeNeed_27 31 (by decide) ?_
    refine gM_put_isWrong X rfl dX7_takeNeed_31 hinX70 hl200 (by first | rfl | exact b2i_nar _) (by first | rfl | exact b2i_fit _) rfl ?_
    refine g_aload_n X dX7_takeNeed_34 rfl 0 rfl rfl ?_
    refine gM_get_isWrong X dX7_takeNeed_35 hinX70 hl200 rfl ?_
    refine g_if_ne X dX7_takeNeed_38 70 (by decide) rfl (fun h38 => ?_) (fun h38 => absurd h38 (by decide))
    refine g_vretW X hr dX7_takeNeed_70 hAe ?_
    first
    | (have hT : tNeed fd L o pos w fn = (pos, true, fn) := by unfold tNeed; rw [if_pos (by first | exact Or.inl h5 | exact Or.inr ⟨h14, h23⟩)]
       rw [hT]; exact ⟨rfl, rfl, hs⟩)
    | (have hT : tNeed fd L o pos w fn = (pos + 1, false, up fn (4 * o + 2) 1) := by unfold tNeed; rw [if_neg (by rintro (z | z); exact absurd (h5.symm.trans z) (by decide); exact z.1 h49), if_pos h49]
       rw [hT]; exact ⟨rfl, rfl, hp1⟩)
    | (have hT : tNeed fd L o pos w fn = (pos + 1, false, up fn (4 * o + 2) 2) := by unfold tNeed; rw [if_neg (by rintro (z | z); exact absurd (h5.symm.trans z) (by decide); first | exact z.2 h23 | exact z.1 h14), if_neg h49]
       rw [hT]; exact ⟨rfl, rfl, hp1⟩)
  · replace h5 := b2i_0 h5
    refine g_aload_n X dX7_takeNeed_8 rfl 0 rfl rfl ?_
    refine g_callVRs (n := 0) (As := []) (rest := [_]) X (c_X7_next l D _ _ _ _ _ _ _ _ _ _ _ _ _  L (pos) o w hL (by omega) ho ) gX7_takeNeed_X7_next rfl (by decide +kernel) ⟨Nat.le_of_ble_eq_true rfl, Nat.le_of_ble_eq_true rfl⟩ rfl rfl  rfl rfl (Nat.le_of_ble_eq_true rfl) dX7_takeNeed_9 ⟨Nat.le_of_ble_eq_true rfl, Nat.le_of_ble_eq_true rfl⟩ rfl (fun v hv => ?_)
    obtain rfl := hv
    refine g_st (st' := [_, _]) rfl ?_
    refine g_bipush (v := (114 : Int32)) X dX7_takeNeed_12 (by decide) rfl ?_
    refine g_icmp_eq X dX7_takeNeed_14 30 (by decide) rfl (fun h14 => ?_) (fun h14 => ?_)
    · refine g_iconst (v := (0 : Int32)) X dX7_takeNeed_30 (by decide) rfl ?_
      refine gM_put_isWrong X rfl dX7_takeNeed_31 hinX70 hl200 (by first | rfl | exact b2i_nar _) (by first | rfl | exact b2i_fit _) rfl ?_
      refine g_aload_n X dX7_takeNeed_34 rfl 0 rfl rfl ?_
      refine gM_get_isWrong X dX7_takeNeed_35 hinX70 hl200 rfl ?_
      refine g_if_ne X dX7_takeNeed_38 70 (by decide) rfl (fun h38 => absurd h38 (by decide)) (fun h38 => ?_)
      have hp1 : pos < L := nx_lt (by first | (rw [h14]; decide) | (rw [h23]; decide))
      refine g_aload_n X dX7_takeNeed_41 rfl 0 rfl rfl ?_
      refine g_iconst (v := (2 : Int32)) X dX7_takeNeed_42 (by decide) rfl ?_
      refine g_aload_n X dX7_takeNeed_43 rfl 0 rfl rfl ?_
      refine g_callVRs (n := 0) (As := []) (rest := [_, _]) X (c_X7_next l D _ _ _ _ _ _ _ _ _ _ _ _ _  L (pos) o false hL (by omega) ho ) gX7_takeNeed_X7_next rfl (by decide +kernel) ⟨Nat.le_of_ble_eq_true rfl, Nat.le_of_ble_eq_true rfl⟩ rfl rfl  rfl rfl (Nat.le_of_ble_eq_true rfl) dX7_takeNeed_44 ⟨Nat.le_of_ble_eq_true rfl, Nat.le_of_ble_eq_true rfl⟩ rfl (fun v hv => ?_)
      obtain rfl := hv
      refine g_st (st' := [_, _, _]) rfl ?_
      refine g_bipush (v := (114 : Int32)) X dX7_takeNeed_47 (by decide) rfl ?_
      refine g_icmp_ne X dX7_takeNeed_49 56 (by decide) rfl (fun h49 => ?_) (fun h49 => ?_)
      · refine g_iconst (v := (2 : Int32)) X dX7_takeNeed_56 (by decide) rfl ?_
        refine g_callVWs (n := 2) (As := [_, _]) (rest := []) X hAg rfl (c_X7_lay l D _ _ _ _ _ _ _ _ _ _ _ _ _  L (pos) o false hL (by omega) ho (2) (by omega) _) gX7_takeNeed_X7_lay rfl (by decide +kernel) ⟨Nat.le_of_ble_eq_true rfl, Nat.le_of_ble_eq_true rfl⟩ rfl rfl  rfl rfl (Nat.le_of_ble_eq_true rfl) dX7_takeNeed_57 ⟨Nat.le_of_ble_eq_true rfl, Nat.le_of_ble_eq_true rfl⟩ rfl (fun v w hv => ?_)
        obtain ⟨rfl, rfl⟩ := hv
        refine ⟨rfl, ?_⟩
        refine g_st (st' := []) rfl ?_
        refine g_aload_n X dX7_takeNeed_60 rfl 0 rfl rfl ?_
        refine g_dup X dX7_takeNeed_61 rfl rfl ?_
        refine gM_get_spot X dX7_takeNeed_62 hinX70 hl194 rfl ?_
        refine g_iconst (v := (1 : Int32)) X dX7_takeNeed_65 (by decide) rfl ?_
        refine g_iadd X dX7_takeNeed_66 rfl ?_
        refine g_topi (y := nI (pos + 1)) (nI_add (pos) (1)) ?_
        refine gM_put_spot X rfl dX7_takeNeed_67 hinX70 hl194 rfl ?_
        refine g_vretW X hr dX7_takeNeed_70 hAe ?_
        first
        | (have hT : tNeed fd L o pos w fn = (pos, true, fn) := by unfold tNeed; rw [if_pos (by first | exact Or.inl h5 | exact Or.inr ⟨h14, h23⟩)]
           rw [hT]; exact ⟨rfl, rfl, hs⟩)
        | (have hT : tNeed fd L o pos w fn = (pos + 1, false, up fn (4 * o + 2) 1) := by unfold tNeed; rw [if_neg (by rintro (z | z); exact absurd (h5.symm.trans z) (by decide); exact z.1 h49), if_pos h49]
           rw [hT]; exact ⟨rfl, rfl, hp1⟩)
        | (have hT : tNeed fd L o pos w fn = (pos + 1, false, up fn (4 * o + 2) 2) := by unfold tNeed; rw [if_neg (by rintro (z | z); exact absurd (h5.symm.trans z) (by decide); first | exact z.2 h23 | exact z.1 h14), if_neg h49]
           rw [hT]; exact ⟨rfl, rfl, hp1⟩)
      · refine g_iconst (v := (1 : Int32)) X dX7_takeNeed_52 (by decide) rfl ?_
        refine g_goto X dX7_takeNeed_53 57 (by decide) ?_
        refine g_callVWs (n := 2) (As := [_, _]) (rest := []) X hAg rfl (c_X7_lay l D _ _ _ _ _ _ _ _ _ _ _ _ _  L (pos) o false hL (by omega) ho (2) (by omega) _) gX7_takeNeed_X7_lay rfl (by decide +kernel) ⟨Nat.le_of_ble_eq_true rfl, Nat.le_of_ble_eq_true rfl⟩ rfl rfl  rfl rfl (Nat.le_of_ble_eq_true rfl) dX7_takeNeed_57 ⟨Nat.le_of_ble_eq_true rfl, Nat.le_of_ble_eq_true rfl⟩ rfl (fun v w hv => ?_)
        obtain ⟨rfl, rfl⟩ := hv
        refine ⟨rfl, ?_⟩
        refine g_st (st' := []) rfl ?_
        refine g_aload_n X dX7_takeNeed_60 rfl 0 rfl rfl ?_
        refine g_dup X dX7_takeNeed_61 rfl rfl ?_
        refine gM_get_spot X dX7_takeNeed_62 hinX70 hl194 rfl ?_
        refine g_iconst (v := (1 : Int32)) X dX7_takeNeed_65 (by decide) rfl ?_
        refine g_iadd X dX7_takeNeed_66 rfl ?_
        refine g_topi (y := nI (pos + 1)) (nI_add (pos) (1)) ?_
        refine gM_put_spot X rfl dX7_takeNeed_67 hinX70 hl194 rfl ?_
        refine g_vretW X hr dX7_takeNeed_70 hAe ?_
        first
        | (have hT : tNeed fd L o pos w fn = (pos, true, fn) := by unfold tNeed; rw [if_pos (by first | exact Or.inl h5 | exact Or.inr ⟨h14, h23⟩)]
           rw [hT]; exact ⟨rfl, rfl, hs⟩)
        | (have hT : tNeed fd L o pos w fn = (pos + 1, false, up fn (4 * o + 2) 1) := by unfold tNeed; rw [if_neg (by rintro (z | z); exact absurd (h5.symm.trans z) (by decide); exact z.1 h49), if_pos h49]
           rw [hT]; exact ⟨rfl, rfl, hp1⟩)
        | (have hT : tNeed fd L o pos w fn = (pos + 1, false, up fn (4 * o + 2) 2) := by unfold tNeed; rw [if_neg (by rintro (z | z); exact absurd (h5.symm.trans z) (by decide); first | exact z.2 h23 | exact z.1 h14), if_neg h49]
           rw [hT]; exact ⟨rfl, rfl, hp1⟩)
    · refine g_aload_n X dX7_takeNeed_17 rfl 0 rfl rfl ?_
      refine g_callVRs (n := 0) (As := []) (rest := [_]) X (c_X7_next l D _ _ _ _ _ _ _ _ _ _ _ _ _  L (pos) o w hL (by omega) ho ) gX7_takeNeed_X7_next rfl (by decide +kernel) ⟨Nat.le_of_ble_eq_true rfl, Nat.le_of_ble_eq_true rfl⟩ rfl rfl  rfl rfl (Nat.le_of_ble_eq_true rfl) dX7_takeNeed_18 ⟨Nat.le_of_ble_eq_true rfl, Nat.le_of_ble_eq_true rfl⟩ rfl (fun v hv => ?_)
      obtain rfl := hv
      refine g_st (st' := [_, _]) rfl ?_
      refine g_bipush (v := (119 : Int32)) X dX7_takeNeed_21 (by decide) rfl ?_
      refine g_icmp_eq X dX7_takeNeed_23 30 (by decide) rfl (fun h23 => ?_) (fun h23 => ?_)
      · refine g_iconst (v := (0 : Int32)) X dX7_takeNeed_30 (by decide) rfl ?_
        refine gM_put_isWrong X rfl dX7_takeNeed_31 hinX70 hl200 (by first | rfl | exact b2i_nar _) (by first | rfl | exact b2i_fit _) rfl ?_
        refine g_aload_n X dX7_takeNeed_34 rfl 0 rfl rfl ?_
        refine gM_get_isWrong X dX7_takeNeed_35 hinX70 hl200 rfl ?_
        refine g_if_ne X dX7_takeNeed_38 70 (by decide) rfl (fun h38 => absurd h38 (by decide)) (fun h38 => ?_)
        have hp1 : pos < L := nx_lt (by first | (rw [h14]; decide) | (rw [h23]; decide))
        refine g_aload_n X dX7_takeNeed_41 rfl 0 rfl rfl ?_
        refine g_iconst (v := (2 : Int32)) X dX7_takeNeed_42 (by decide) rfl ?_
        refine g_aload_n X dX7_takeNeed_43 rfl 0 rfl rfl ?_
        refine g_callVRs (n := 0) (As := []) (rest := [_, _]) X (c_X7_next l D _ _ _ _ _ _ _ _ _ _ _ _ _  L (pos) o false hL (by omega) ho ) gX7_takeNeed_X7_next rfl (by decide +kernel) ⟨Nat.le_of_ble_eq_true rfl, Nat.le_of_ble_eq_true rfl⟩ rfl rfl  rfl rfl (Nat.le_of_ble_eq_true rfl) dX7_takeNeed_44 ⟨Nat.le_of_ble_eq_true rfl, Nat.le_of_ble_eq_true rfl⟩ rfl (fun v hv => ?_)
        obtain rfl := hv
        refine g_st (st' := [_, _, _]) rfl ?_
        refine g_bipush (v := (114 : Int32)) X dX7_takeNeed_47 (by decide) rfl ?_
        refine g_icmp_ne X dX7_takeNeed_49 56 (by decide) rfl (fun h49 => ?_) (fun h49 => ?_)
        · refine g_iconst (v := (2 : Int32)) X dX7_takeNeed_56 (by decide) rfl ?_
          refine g_callVWs (n := 2) (As := [_, _]) (rest := []) X hAg rfl (c_X7_lay l D _ _ _ _ _ _ _ _ _ _ _ _ _  L (pos) o false hL (by omega) ho (2) (by omega) _) gX7_takeNeed_X7_lay rfl (by decide +kernel) ⟨Nat.le_of_ble_eq_true rfl, Nat.le_of_ble_eq_true rfl⟩ rfl rfl  rfl rfl (Nat.le_of_ble_eq_true rfl) dX7_takeNeed_57 ⟨Nat.le_of_ble_eq_true rfl, Nat.le_of_ble_eq_true rfl⟩ rfl (fun v w hv => ?_)
          obtain ⟨rfl, rfl⟩ := hv
          refine ⟨rfl, ?_⟩
          refine g_st (st' := []) rfl ?_
          refine g_aload_n X dX7_takeNeed_60 rfl 0 rfl rfl ?_
          refine g_dup X dX7_takeNeed_61 rfl rfl ?_
          refine gM_get_spot X dX7_takeNeed_62 hinX70 hl194 rfl ?_
          refine g_iconst (v := (1 : Int32)) X dX7_takeNeed_65 (by decide) rfl ?_
          refine g_iadd X dX7_takeNeed_66 rfl ?_
          refine g_topi (y := nI (pos + 1)) (nI_add (pos) (1)) ?_
          refine gM_put_spot X rfl dX7_takeNeed_67 hinX70 hl194 rfl ?_
          refine g_vretW X hr dX7_takeNeed_70 hAe ?_
          first
          | (have hT : tNeed fd L o pos w fn = (pos, true, fn) := by unfold tNeed; rw [if_pos (by first | exact Or.inl h5 | exact Or.inr ⟨h14, h23⟩)]
             rw [hT]; exact ⟨rfl, rfl, hs⟩)
          | (have hT : tNeed fd L o pos w fn = (pos + 1, false, up fn (4 * o + 2) 1) := by unfold tNeed; rw [if_neg (by rintro (z | z); exact absurd (h5.symm.trans z) (by decide); exact z.1 h49), if_pos h49]
             rw [hT]; exact ⟨rfl, rfl, hp1⟩)
          | (have hT : tNeed fd L o pos w fn = (pos + 1, false, up fn (4 * o + 2) 2) := by unfold tNeed; rw [if_neg (by rintro (z | z); exact absurd (h5.symm.trans z) (by decide); first | exact z.2 h23 | exact z.1 h14), if_neg h49]
             rw [hT]; exact ⟨rfl, rfl, hp1⟩)
        · refine g_iconst (v := (1 : Int32)) X dX7_takeNeed_52 (by decide) rfl ?_
          refine g_goto X dX7_takeNeed_53 57 (by decide) ?_
          refine g_callVWs (n := 2) (As := [_, _]) (rest := []) X hAg rfl (c_X7_lay l D _ _ _ _ _ _ _ _ _ _ _ _ _  L (pos) o false hL (by omega) ho (2) (by omega) _) gX7_takeNeed_X7_lay rfl (by decide +kernel) ⟨Nat.le_of_ble_eq_true rfl, Nat.le_of_ble_eq_true rfl⟩ rfl rfl  rfl rfl (Nat.le_of_ble_eq_true rfl) dX7_takeNeed_57 ⟨Nat.le_of_ble_eq_true rfl, Nat.le_of_ble_eq_true rfl⟩ rfl (fun v w hv => ?_)
          obtain ⟨rfl, rfl⟩ := hv
          refine ⟨rfl, ?_⟩
          refine g_st (st' := []) rfl ?_
          refine g_aload_n X dX7_takeNeed_60 rfl 0 rfl rfl ?_
          refine g_dup X dX7_takeNeed_61 rfl rfl ?_
          refine gM_get_spot X dX7_takeNeed_62 hinX70 hl194 rfl ?_
          refine g_iconst (v := (1 : Int32)) X dX7_takeNeed_65 (by decide) rfl ?_
          refine g_iadd X dX7_takeNeed_66 rfl ?_
          refine g_topi (y := nI (pos + 1)) (nI_add (pos) (1)) ?_
          refine gM_put_spot X rfl dX7_takeNeed_67 hinX70 hl194 rfl ?_
          refine g_vretW X hr dX7_takeNeed_70 hAe ?_
          first
          | (have hT : tNeed fd L o pos w fn = (pos, true, fn) := by unfold tNeed; rw [if_pos (by first | exact Or.inl h5 | exact Or.inr ⟨h14, h23⟩)]
             rw [hT]; exact ⟨rfl, rfl, hs⟩)
          | (have hT : tNeed fd L o pos w fn = (pos + 1, false, up fn (4 * o + 2) 1) := by unfold tNeed; rw [if_neg (by rintro (z | z); exact absurd (h5.symm.trans z) (by decide); exact z.1 h49), if_pos h49]
             rw [hT]; exact ⟨rfl, rfl, hp1⟩)
          | (have hT : tNeed fd L o pos w fn = (pos + 1, false, up fn (4 * o + 2) 2) := by unfold tNeed; rw [if_neg (by rintro (z | z); exact absurd (h5.symm.trans z) (by decide); first | exact z.2 h23 | exact z.1 h14), if_neg h49]
             rw [hT]; exact ⟨rfl, rfl, hp1⟩)
      · refine g_iconst (v := (1 : Int32)) X dX7_takeNeed_26 (by decide) rfl ?_
        refine g_goto X dX7_takeNeed_27 31 (by decide) ?_
        refine gM_put_isWrong X rfl dX7_takeNeed_31 hinX70 hl200 (by first | rfl | exact b2i_nar _) (by first | rfl | exact b2i_fit _) rfl ?_
        refine g_aload_n X dX7_takeNeed_34 rfl 0 rfl rfl ?_
        refine gM_get_isWrong X dX7_takeNeed_35 hinX70 hl200 rfl ?_
        refine g_if_ne X dX7_takeNeed_38 70 (by decide) rfl (fun h38 => ?_) (fun h38 => absurd h38 (by decide))
        refine g_vretW X hr dX7_takeNeed_70 hAe ?_
        first
        | (have hT : tNeed fd L o pos w fn = (pos, true, fn) := by unfold tNeed; rw [if_pos (by first | exact Or.inl h5 | exact Or.inr ⟨h14, h23⟩)]
           rw [hT]; exact ⟨rfl, rfl, hs⟩)
        | (have hT : tNeed fd L o pos w fn = (pos + 1, false, up fn (4 * o + 2) 1) := by unfold tNeed; rw [if_neg (by rintro (z | z); exact absurd (h5.symm.trans z) (by decide); exact z.1 h49), if_pos h49]
           rw [hT]; exact ⟨rfl, rfl, hp1⟩)
        | (have hT : tNeed fd L o pos w fn = (pos + 1, false, up fn (4 * o + 2) 2) := by unfold tNeed; rw [if_neg (by rintro (z | z); exact absurd (h5.symm.trans z) (by decide); first | exact z.2 h23 | exact z.1 h14), if_neg h49]
           rw [hT]; exact ⟨rfl, rfl, hp1⟩)
