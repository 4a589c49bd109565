set_option maxHeartbeats 4000000 in
set_option maxRecDepth 100000 in
theorem c_X7_isBased (l : Launch) (D : DT) (a : Nat → Nat) (fa fp fs fv fg fw fd ft fn : Nat → Int32) (p1 pm wk dm sp iw od : Int32) (q : Nat) (hq : q < 40) (hst : stOK fa q) : MR l yX7_isBased wsX7_isBased 1 22 D [.ref (a 0), .int (nI q)] (wM D a fa fp fs fv fg fw fd ft fn p1 pm wk dm sp iw od) (fun v => v = some (.int (b2i (basedM fa q)))) := by
  refine MR.of (cc := cX7_isBased) (maxL := 4) (ret := (some .boolean)) (lv := [(0, .ref (a 0)), (1, .int (nI q))]) (by decide +kernel) rfl (Nat.le_of_ble_eq_true rfl) rfl ?_
  intro p e s m below meth c A X hr hmn
  have hinX70 : ∀ w ∈ wsX70, w ∈ wsX7_isBased := fun w h => List.mem_cons_of_mem _ (List.mem_append_right _ h)
  have hl7 := List.mem_of_getElem? (l := wsX7_isBased) (i := 1) rfl
  obtain ⟨⟨pg, hpg, epg⟩, -, -, -, hrt, -, -⟩ := id hst
  have hcpg : (ofM fa q 0).toNatClampNeg = pg := by rw [epg]; exact nI_clamp (by omega)
  refine g_aload_n X dX7_isBased_0 rfl 0 rfl rfl ?_
  refine g_iload_n X dX7_isBased_1 rfl 1 rfl rfl ?_
  refine g_iconst (v := (4 : Int32)) X dX7_isBased_2 (by decide) rfl ?_
  refine g_callVRs (n := 2) (As := [_, _]) (rest := []) X (c_X7_of l D _ _ _ _ _ _ _ _ _ _ _ _ _ _ _ _ _  (q) (4) (by omega) (by omega)) gX7_isBased_X7_of rfl (by decide +kernel) ⟨Nat.le_of_ble_eq_true rfl, Nat.le_of_ble_eq_true rfl⟩ rfl rfl  rfl rfl (Nat.le_of_ble_eq_true rfl) dX7_isBased_3 ⟨Nat.le_of_ble_eq_true rfl, Nat.le_of_ble_eq_true rfl⟩ rfl (fun v hv => ?_)
  obtain rfl := hv
  refine g_st (st' := [_]) rfl ?_
  refine g_istore_n X [(2, _), (0, _), (1, _)] dX7_isBased_6 rfl (by decide) rfl rfl ?_
  refine g_iload_n X dX7_isBased_7 rfl 0 rfl rfl ?_
  refine g_if_ge X dX7_isBased_8 39 (by decide) rfl (fun h8 => ?_) (fun h8 => ?_)
  · have i8 : (0 : Int) ≤ _ := ic_le h8
    clear epg
    obtain ⟨r, hr4, er⟩ : ∃ r : Nat, r < q ∧ ofM fa q 4 = nI r := hrt.resolve_left (fun e => by rw [e] at h8; exact absurd h8 (by decide))
    have hcr : (ofM fa q 4).toNatClampNeg = r := by rw [er]; exact nI_clamp (by omega)
    have hng : ¬ ofM fa q 4 < 0 := by rw [er]; exact nI_pos (by omega)
    rw [er]
    clear er
    refine g_aload_n X dX7_isBased_39 rfl 1 rfl rfl ?_
    refine g_iload_n X dX7_isBased_40 rfl 2 rfl rfl ?_
    refine g_iconst (v := (3 : Int32)) X dX7_isBased_41 (by decide) rfl ?_
    refine g_callVRs (n := 2) (As := [_, _]) (rest := []) X (c_X7_of l D _ _ _ _ _ _ _ _ _ _ _ _ _ _ _ _ _  (q) (3) (by omega) (by omega)) gX7_isBased_X7_of rfl (by decide +kernel) ⟨Nat.le_of_ble_eq_true rfl, Nat.le_of_ble_eq_true rfl⟩ rfl rfl  rfl rfl (Nat.le_of_ble_eq_true rfl) dX7_isBased_42 ⟨Nat.le_of_ble_eq_true rfl, Nat.le_of_ble_eq_true rfl⟩ rfl (fun v hv => ?_)
    obtain rfl := hv
    refine g_st (st' := [_]) rfl ?_
    refine g_istore_n X [(3, _), (2, _), (0, _), (1, _)] dX7_isBased_45 rfl (by decide) rfl rfl ?_
    refine g_aload_n X dX7_isBased_46 rfl 2 rfl rfl ?_
    refine g_iload_n X dX7_isBased_47 rfl 1 rfl rfl ?_
    refine g_iconst (v := (0 : Int32)) X dX7_isBased_48 (by decide) rfl ?_
    refine g_callVRs (n := 2) (As := [_, _]) (rest := []) X (c_X7_of l D _ _ _ _ _ _ _ _ _ _ _ _ _ _ _ _ _  (r) (0) (by omega) (by omega)) gX7_isBased_X7_of rfl (by decide +kernel) ⟨Nat.le_of_ble_eq_true rfl, Nat.le_of_ble_eq_true rfl⟩ rfl rfl  rfl rfl (Nat.le_of_ble_eq_true rfl) dX7_isBased_49 ⟨Nat.le_of_ble_eq_true rfl, Nat.le_of_ble_eq_true rfl⟩ rfl (fun v hv => ?_)
    obtain rfl := hv
    refine g_st (st' := [_]) rfl ?_
    refine g_aload_n X dX7_isBased_52 rfl 2 rfl rfl ?_
    refine g_iload_n X dX7_isBased_53 rfl 3 rfl rfl ?_
    refine g_iconst (v := (0 : Int32)) X dX7_isBased_54 (by decide) rfl ?_
    refine g_callVRs (n := 2) (As := [_, _]) (rest := [_]) X (c_X7_of l D _ _ _ _ _ _ _ _ _ _ _ _ _ _ _ _ _  (q) (0) (by omega) (by omega)) gX7_isBased_X7_of rfl (by decide +kernel) ⟨Nat.le_of_ble_eq_true rfl, Nat.le_of_ble_eq_true rfl⟩ rfl rfl  rfl rfl (Nat.le_of_ble_eq_true rfl) dX7_isBased_55 ⟨Nat.le_of_ble_eq_true rfl, Nat.le_of_ble_eq_true rfl⟩ rfl (fun v hv => ?_)
    obtain rfl := hv
    refine g_st (st' := [_, _]) rfl ?_
    refine g_icmp_ne X dX7_isBased_58 103 (by decide) rfl (fun h58 => ?_) (fun h58 => ?_)
    · refine g_iconst (v := (0 : Int32)) X dX7_isBased_103 (by decide) rfl ?_
      refine g_retR X hr (by first | rfl | exact b2i_nar _) dX7_isBased_104 ?_
      first | exact ret_1 (by simp [basedM, rtM, *]) | exact ret_0 (by simp [basedM, rtM, *])
    · refine g_aload_n X dX7_isBased_61 rfl 2 rfl rfl ?_
      refine g_iload_n X dX7_isBased_62 rfl 1 rfl rfl ?_
      refine g_iconst (v := (2 : Int32)) X dX7_isBased_63 (by decide) rfl ?_
      refine g_callVRs (n := 2) (As := [_, _]) (rest := []) X (c_X7_of l D _ _ _ _ _ _ _ _ _ _ _ _ _ _ _ _ _  (r) (2) (by omega) (by omega)) gX7_isBased_X7_of rfl (by decide +kernel) ⟨Nat.le_of_ble_eq_true rfl, Nat.le_of_ble_eq_true rfl⟩ rfl rfl  rfl rfl (Nat.le_of_ble_eq_true rfl) dX7_isBased_64 ⟨Nat.le_of_ble_eq_true rfl, Nat.le_of_ble_eq_true rfl⟩ rfl (fun v hv => ?_)
      obtain rfl := hv
      refine g_st (st' := [_]) rfl ?_
      refine g_aload_n X dX7_isBased_67 rfl 2 rfl rfl ?_
      refine g_iload_n X dX7_isBased_68 rfl 3 rfl rfl ?_
      refine g_iconst (v := (1 : Int32)) X dX7_isBased_69 (by decide) rfl ?_
      refine g_callVRs (n := 2) (As := [_, _]) (rest := [_]) X (c_X7_of l D _ _ _ _ _ _ _ _ _ _ _ _ _ _ _ _ _  (q) (1) (by omega) (by omega)) gX7_isBased_X7_of rfl (by decide +kernel) ⟨Nat.le_of_ble_eq_true rfl, Nat.le_of_ble_eq_true rfl⟩ rfl rfl  rfl rfl (Nat.le_of_ble_eq_true rfl) dX7_isBased_70 ⟨Nat.le_of_ble_eq_true rfl, Nat.le_of_ble_eq_true rfl⟩ rfl (fun v hv => ?_)
      obtain rfl := hv
      refine g_st (st' := [_, _]) rfl ?_
      refine g_icmp_ne X dX7_isBased_73 103 (by decide) rfl (fun h73 => ?_) (fun h73 => ?_)
      · refine g_iconst (v := (0 : Int32)) X dX7_isBased_103 (by decide) rfl ?_
        refine g_retR X hr (by first | rfl | exact b2i_nar _) dX7_isBased_104 ?_
        first | exact ret_1 (by simp [basedM, rtM, *]) | exact ret_0 (by simp [basedM, rtM, *])
      · refine g_aload_n X dX7_isBased_76 rfl 2 rfl rfl ?_
        refine g_iload_n X dX7_isBased_77 rfl 1 rfl rfl ?_
        refine g_iconst (v := (3 : Int32)) X dX7_isBased_78 (by decide) rfl ?_
        refine g_callVRs (n := 2) (As := [_, _]) (rest := []) X (c_X7_of l D _ _ _ _ _ _ _ _ _ _ _ _ _ _ _ _ _  (r) (3) (by omega) (by omega)) gX7_isBased_X7_of rfl (by decide +kernel) ⟨Nat.le_of_ble_eq_true rfl, Nat.le_of_ble_eq_true rfl⟩ rfl rfl  rfl rfl (Nat.le_of_ble_eq_true rfl) dX7_isBased_79 ⟨Nat.le_of_ble_eq_true rfl, Nat.le_of_ble_eq_true rfl⟩ rfl (fun v hv => ?_)
        obtain rfl := hv
        refine g_st (st' := [_]) rfl ?_
        refine g_iconst (v := (4 : Int32)) X dX7_isBased_82 (by decide) rfl ?_
        refine g_iand X dX7_isBased_83 rfl ?_
        refine g_if_eq X dX7_isBased_84 103 (by decide) rfl (fun h84 => ?_) (fun h84 => ?_)
        · refine g_iconst (v := (0 : Int32)) X dX7_isBased_103 (by decide) rfl ?_
          refine g_retR X hr (by first | rfl | exact b2i_nar _) dX7_isBased_104 ?_
          first | exact ret_1 (by simp [basedM, rtM, *]) | exact ret_0 (by simp [basedM, rtM, *])
        · refine g_aload_n X dX7_isBased_87 rfl 2 rfl rfl ?_
          refine g_iload_n X dX7_isBased_88 rfl 1 rfl rfl ?_
          refine g_iconst (v := (3 : Int32)) X dX7_isBased_89 (by decide) rfl ?_
          refine g_callVRs (n := 2) (As := [_, _]) (rest := []) X (c_X7_of l D _ _ _ _ _ _ _ _ _ _ _ _ _ _ _ _ _  (r) (3) (by omega) (by omega)) gX7_isBased_X7_of rfl (by decide +kernel) ⟨Nat.le_of_ble_eq_true rfl, Nat.le_of_ble_eq_true rfl⟩ rfl rfl  rfl rfl (Nat.le_of_ble_eq_true rfl) dX7_isBased_90 ⟨Nat.le_of_ble_eq_true rfl, Nat.le_of_ble_eq_true rfl⟩ rfl (fun v hv => ?_)
          obtain rfl := hv
          refine g_st (st' := [_]) rfl ?_
          refine g_iload_n X dX7_isBased_93 rfl 0 rfl rfl ?_
          refine g_iand X dX7_isBased_94 rfl ?_
          refine g_iload_n X dX7_isBased_95 rfl 0 rfl rfl ?_
          refine g_icmp_ne X dX7_isBased_96 103 (by decide) rfl (fun h96 => ?_) (fun h96 => ?_)
          · refine g_iconst (v := (0 : Int32)) X dX7_isBased_103 (by decide) rfl ?_
            refine g_retR X hr (by first | rfl | exact b2i_nar _) dX7_isBased_104 ?_
            first | exact ret_1 (by simp [basedM, rtM, *]) | exact ret_0 (by simp [basedM, rtM, *])
          · refine g_iconst (v := (1 : Int32)) X dX7_isBased_99 (by decide) rfl ?_
            refine g_goto X dX7_isBased_100 104 (by decide) ?_
            refine g_retR X hr (by first | rfl | exact b2i_nar _) dX7_isBased_104 ?_
            first | exact ret_1 (by simp [basedM, rtM, *]) | exact ret_0 (by simp [basedM, rtM, *])
  · have i8 : _ < (0 : Int) := ic_nle h8
    have hng : ofM fa q 4 < 0 := Int32.not_le.mp h8
    refine g_aload_n X dX7_isBased_11 rfl 1 rfl rfl ?_
    refine g_iload_n X dX7_isBased_12 rfl 2 rfl rfl ?_
    refine g_iconst (v := (1 : Int32)) X dX7_isBased_13 (by decide) rfl ?_
    refine g_callVRs (n := 2) (As := [_, _]) (rest := []) X (c_X7_of l D _ _ _ _ _ _ _ _ _ _ _ _ _ _ _ _ _  (q) (1) (by omega) (by omega)) gX7_isBased_X7_of rfl (by decide +kernel) ⟨Nat.le_of_ble_eq_true rfl, Nat.le_of_ble_eq_true rfl⟩ rfl rfl  rfl rfl (Nat.le_of_ble_eq_true rfl) dX7_isBased_14 ⟨Nat.le_of_ble_eq_true rfl, Nat.le_of_ble_eq_true rfl⟩ rfl (fun v hv => ?_)
    obtain rfl := hv
    refine g_st (st' := [_]) rfl ?_
    refine g_aload_n X dX7_isBased_17 rfl 1 rfl rfl ?_
    refine gM_get_at X dX7_isBased_18 hinX70 hl7 rfl ?_
    refine g_iconst (v := (4 : Int32)) X dX7_isBased_21 (by decide) rfl ?_
    refine g_aload_n X dX7_isBased_22 rfl 1 rfl rfl ?_
    refine g_iload_n X dX7_isBased_23 rfl 2 rfl rfl ?_
    refine g_iconst (v := (0 : Int32)) X dX7_isBased_24 (by decide) rfl ?_
    refine g_callVRs (n := 2) (As := [_, _]) (rest := [_, _, _]) X (c_X7_of l D _ _ _ _ _ _ _ _ _ _ _ _ _ _ _ _ _  (q) (0) (by omega) (by omega)) gX7_isBased_X7_of rfl (by decide +kernel) ⟨Nat.le_of_ble_eq_true rfl, Nat.le_of_ble_eq_true rfl⟩ rfl rfl  rfl rfl (Nat.le_of_ble_eq_true rfl) dX7_isBased_25 ⟨Nat.le_of_ble_eq_true rfl, Nat.le_of_ble_eq_true rfl⟩ rfl (fun v hv => ?_)
    obtain rfl := hv
    refine g_st (st' := [_, _, _, _]) rfl ?_
    refine g_iadd X dX7_isBased_28 rfl ?_
    refine g_topi (y := nI (4 + pg)) (by rw [epg]; exact nI_add 4 pg) ?_
    clear epg
    refine gM_ld_at X dX7_isBased_29 (by first | rfl | assumption) (by omega) rfl ?_
    refine g_icmp_ne X dX7_isBased_30 37 (by decide) rfl (fun h30 => ?_) (fun h30 => ?_)
    · refine g_iconst (v := (0 : Int32)) X dX7_isBased_37 (by decide) rfl ?_
      refine g_retR X hr (by first | rfl | exact b2i_nar _) dX7_isBased_38 ?_
      first | exact ret_1 (by simp [basedM, rtM, *]) | exact ret_0 (by simp [basedM, rtM, *])
    · refine g_iconst (v := (1 : Int32)) X dX7_isBased_33 (by decide) rfl ?_
      refine g_goto X dX7_isBased_34 38 (by decide) ?_
      refine g_retR X hr (by first | rfl | exact b2i_nar _) dX7_isBased_38 ?_
      first | exact ret_1 (by simp [basedM, rtM, *]) | exact ret_0 (by simp [basedM, rtM, *])

set_option maxHeartbeats 4000000 in
set_option maxRecDepth 100000 in
theorem c_X7_findGood (l : Launch) (D : DT) (a : Nat → Nat) (fa fp fs fv fg fw fd ft fn : Nat → Int32) (p1 pm wk dm sp iw od : Int32) (mk : Nat) (hmk : fa 76 = nI mk) (h40 : mk ≤ 40) (hst : ∀ s, s < mk → stOK fa s) : MW l yX7_findGood wsX7_findGood 2 45 0 0 D [.ref (a 0)] (wM D a fa fp fs fv fg fw fd ft fn p1 pm wk dm sp iw od) (fun v w => v = none ∧ w = (wM D a fa fp fs fv (fgI fa fg mk) fw fd ft fn p1 pm wk dm sp iw od)) := by
  refine MW.of (cc := cX7_findGood) (maxL := 3) (ret := none) (lv := [(0, .ref (a 0))]) (by decide +kernel) rfl (Nat.le_of_ble_eq_true rfl) rfl ?_
  intro p e s m below meth c A hAe hAg X hr hmn
  have hinX70 : ∀ w ∈ wsX70, w ∈ wsX7_findGood := fun w h => List.mem_cons_of_mem _ (List.mem_append_right _ h)
  have hl7 := List.mem_of_getElem? (l := wsX7_findGood) (i := 1) rfl
  have hl23 := List.mem_of_getElem? (l := wsX7_findGood) (i := 2) rfl
  refine g_iconst (v := (0 : Int32)) X dX7_findGood_0 (by decide) rfl ?_
  refine g_istore_n X [(1, _), (0, _)] dX7_findGood_1 rfl (by decide) rfl rfl ?_
  have L2 : ∀ (n : Nat) (i : Nat) (hi : i ≤ mk) (hn : mk - i = n), GG p l e (wRoom 2 45 0 0) s m ([.ref (a 0)] : List Value).toArray below meth c D A 3 false 0 0 (MQ below (wrQ D (wM D a fa fp fs fv fg fw fd ft fn p1 pm wk dm sp iw od) s.heap.size (fun v w => v = none ∧ w = (wM D a fa fp fs fv (fgI fa fg mk) fw fd ft fn p1 pm wk dm sp iw od))) ([.ref (a 0)] : List Value).toArray s 0 0 (va_A (wM D a fa fp fs fv fg fw fd ft fn p1 pm wk dm sp iw od) s.heap.size)) (wM D a fa fp fs fv (fgI fa fg i) fw fd ft fn p1 pm wk dm sp iw od) 2 [(1, .int (nI i)), (0, .ref (a 0))] [] := by
    intro n
    induction n using Nat.strongRecOn with
    | _ n ih =>
    intro i hi hn
    refine g_iload_n X dX7_findGood_2 rfl 0 rfl rfl ?_
    refine g_aload_n X dX7_findGood_3 rfl 1 rfl rfl ?_
    refine gM_get_at X dX7_findGood_4 hinX70 hl7 rfl ?_
    refine g_bipush (v := (76 : Int32)) X dX7_findGood_7 (by decide) rfl ?_
    refine gM_ld_at X dX7_findGood_9 (k := 76) rfl (by decide) rfl ?_
    refine g_topi (hmk) ?_
    refine g_icmp_ge X dX7_findGood_10 77 (by decide) rfl (fun h10 => ?_) (fun h10 => ?_)
    · have i10 := nj_le (a := mk) (b := i) (by omega) (by omega) h10
      refine g_vretW X hr dX7_findGood_77 hAe ?_
      have hii : i = mk := by omega
      subst hii
      exact ⟨rfl, rfl⟩
    · have i10 := nj_nle (a := mk) (b := i) (by omega) (by omega) h10
      have hsti := hst i (by omega)
      obtain ⟨-, -, -, -, hrt, -, -⟩ := id hsti
      have hrt2 : ofM fa i 4 < 0 ∨ rtM fa i < i := by
        rcases hrt with h | ⟨r, h1, h2⟩
        · exact Or.inl (by rw [h]; decide)
        · exact Or.inr (by unfold rtM; rw [h2, nI_clamp (by omega)]; exact h1)
      refine g_aload_n X dX7_findGood_13 rfl 1 rfl rfl ?_
      refine g_iload_n X dX7_findGood_14 rfl 0 rfl rfl ?_
      refine g_iconst (v := (4 : Int32)) X dX7_findGood_15 (by decide) rfl ?_
      refine g_callVRs (n := 2) (As := [_, _]) (rest := []) X (c_X7_of l D _ _ _ _ _ _ _ _ _ _ _ _ _ _ _ _ _  (i) (4) (by omega) (by omega)) gX7_findGood_X7_of rfl (by decide +kernel) ⟨Nat.le_of_ble_eq_true rfl, Nat.le_of_ble_eq_true rfl⟩ rfl rfl  rfl rfl (Nat.le_of_ble_eq_true rfl) dX7_findGood_16 ⟨Nat.le_of_ble_eq_true rfl, Nat.le_of_ble_eq_true rfl⟩ rfl (fun v hv => ?_)
      obtain rfl := hv
      refine g_st (st' := [_]) rfl ?_
      refine g_istore_n X [(2, _), (1, _), (0, _)] dX7_findGood_19 rfl (by decide) rfl rfl ?_
      refine g_aload_n X dX7_findGood_20 rfl 2 rfl rfl ?_
      refine gM_get_good X dX7_findGood_21 hinX70 hl23 rfl ?_
      refine g_iload_n X dX7_findGood_24 rfl 1 rfl rfl ?_
      refine g_aload_n X dX7_findGood_25 rfl 2 rfl rfl ?_
      refine g_iload_n X dX7_findGood_26 rfl 1 rfl rfl ?_
      refine g_iconst (v := (5 : Int32)) X dX7_findGood_27 (by decide) rfl ?_
      refine g_callVRs (n := 2) (As := [_, _]) (rest := [_, _]) X (c_X7_of l D _ _ _ _ _ _ _ _ _ _ _ _ _ _ _ _ _  (i) (5) (by omega) (by omega)) gX7_findGood_X7_of rfl (by decide +kernel) ⟨Nat.le_of_ble_eq_true rfl, Nat.le_of_ble_eq_true rfl⟩ rfl rfl  rfl rfl (Nat.le_of_ble_eq_true rfl) dX7_findGood_28 ⟨Nat.le_of_ble_eq_true rfl, Nat.le_of_ble_eq_true rfl⟩ rfl (fun v hv => ?_)
      obtain rfl := hv
      refine g_st (st' := [_, _, _]) rfl ?_
      refine g_if_ne X dX7_findGood_31 69 (by decide) rfl (fun h31 => ?_) (fun h31 => ?_)
      · refine g_iconst (v := (0 : Int32)) X dX7_findGood_69 (by decide) rfl ?_
        refine gM_st_good X rfl dX7_findGood_70 (by first | rfl | assumption) (by omega) (by first | rfl | exact b2i_vnar _) rfl ?_
        refine g_iinc (v := nI (i + 1)) X [(1, _), (2, _), (0, _)] dX7_findGood_71 1 rfl (nI_add (i) 1) (by decide) rfl rfl ?_
        refine g_goto X dX7_findGood_74 2 (by decide) ?_
        refine g_lv [0, 2] [(1, _), (0, _)] rfl ?_
        refine g_ws (wM_fg (fgI_s ?_)) ?_
        · rw [gd_step hrt2]; simp [gdStep, rtM, b2i, *]
        exact ih (mk - (i + 1)) (by omega) (i + 1) (by omega) rfl
      · refine g_aload_n X dX7_findGood_34 rfl 2 rfl rfl ?_
        refine g_iload_n X dX7_findGood_35 rfl 1 rfl rfl ?_
        refine g_bipush (v := (6 : Int32)) X dX7_findGood_36 (by decide) rfl ?_
        refine g_callVRs (n := 2) (As := [_, _]) (rest := [_, _]) X (c_X7_of l D _ _ _ _ _ _ _ _ _ _ _ _ _ _ _ _ _  (i) (6) (by omega) (by omega)) gX7_findGood_X7_of rfl (by decide +kernel) ⟨Nat.le_of_ble_eq_true rfl, Nat.le_of_ble_eq_true rfl⟩ rfl rfl  rfl rfl (Nat.le_of_ble_eq_true rfl) dX7_findGood_38 ⟨Nat.le_of_ble_eq_true rfl, Nat.le_of_ble_eq_true rfl⟩ rfl (fun v hv => ?_)
        obtain rfl := hv
        refine g_st (st' := [_, _, _]) rfl ?_
        refine g_if_ne X dX7_findGood_41 69 (by decide) rfl (fun h41 => ?_) (fun h41 => ?_)
        · refine g_iconst (v := (0 : Int32)) X dX7_findGood_69 (by decide) rfl ?_
          refine gM_st_good X rfl dX7_findGood_70 (by first | rfl | assumption) (by omega) (by first | rfl | exact b2i_vnar _) rfl ?_
          refine g_iinc (v := nI (i + 1)) X [(1, _), (2, _), (0, _)] dX7_findGood_71 1 rfl (nI_add (i) 1) (by decide) rfl rfl ?_
          refine g_goto X dX7_findGood_74 2 (by decide) ?_
          refine g_lv [0, 2] [(1, _), (0, _)] rfl ?_
          refine g_ws (wM_fg (fgI_s ?_)) ?_
          · rw [gd_step hrt2]; simp [gdStep, rtM, b2i, *]
          exact ih (mk - (i + 1)) (by omega) (i + 1) (by omega) rfl
        · refine g_aload_n X dX7_findGood_44 rfl 2 rfl rfl ?_
          refine g_iload_n X dX7_findGood_45 rfl 1 rfl rfl ?_
          refine g_callVRs (n := 1) (As := [_]) (rest := [_, _]) X (c_X7_isBased l D _ _ _ _ _ _ _ _ _ _ _ _ _ _ _ _ _  (i) (by omega) hsti) gX7_findGood_X7_isBased rfl (by decide +kernel) ⟨Nat.le_of_ble_eq_true rfl, Nat.le_of_ble_eq_true rfl⟩ rfl rfl  rfl rfl (Nat.le_of_ble_eq_true rfl) dX7_findGood_46 ⟨Nat.le_of_ble_eq_true rfl, Nat.le_of_ble_eq_true rfl⟩ rfl (fun v hv => ?_)
          obtain rfl := hv
          refine g_st (st' := [_, _, _]) rfl ?_
          refine g_if_eq X dX7_findGood_49 69 (by decide) rfl (fun h49 => ?_) (fun h49 => ?_)
          · replace h49 := b2i_0 h49
            refine g_iconst (v := (0 : Int32)) X dX7_findGood_69 (by decide) rfl ?_
            refine gM_st_good X rfl dX7_findGood_70 (by first | rfl | assumption) (by omega) (by first | rfl | exact b2i_vnar _) rfl ?_
            refine g_iinc (v := nI (i + 1)) X [(1, _), (2, _), (0, _)] dX7_findGood_71 1 rfl (nI_add (i) 1) (by decide) rfl rfl ?_
            refine g_goto X dX7_findGood_74 2 (by decide) ?_
            refine g_lv [0, 2] [(1, _), (0, _)] rfl ?_
            refine g_ws (wM_fg (fgI_s ?_)) ?_
            · rw [gd_step hrt2]; simp [gdStep, rtM, b2i, *]
            exact ih (mk - (i + 1)) (by omega) (i + 1) (by omega) rfl
          · replace h49 := b2i_n0 h49
            refine g_iload_n X dX7_findGood_52 rfl 0 rfl rfl ?_
            refine g_if_lt X dX7_findGood_53 65 (by decide) rfl (fun h53 => ?_) (fun h53 => ?_)
            · have i53 : _ < (0 : Int) := ic_lt h53
              refine g_iconst (v := (1 : Int32)) X dX7_findGood_65 (by decide) rfl ?_
              refine g_goto X dX7_findGood_66 70 (by decide) ?_
              refine gM_st_good X rfl dX7_findGood_70 (by first | rfl | assumption) (by omega) (by first | rfl | exact b2i_vnar _) rfl ?_
              refine g_iinc (v := nI (i + 1)) X [(1, _), (2, _), (0, _)] dX7_findGood_71 1 rfl (nI_add (i) 1) (by decide) rfl rfl ?_
              refine g_goto X dX7_findGood_74 2 (by decide) ?_
              refine g_lv [0, 2] [(1, _), (0, _)] rfl ?_
              refine g_ws (wM_fg (fgI_s ?_)) ?_
              · rw [gd_step hrt2]; simp [gdStep, rtM, b2i, *]
              exact ih (mk - (i + 1)) (by omega) (i + 1) (by omega) rfl
            · have i53 : (0 : Int) ≤ _ := ic_nlt h53
              obtain ⟨r, hr4, er⟩ : ∃ r : Nat, r < i ∧ ofM fa i 4 = nI r := hrt.resolve_left (fun e => by rw [e] at h53; exact absurd h53 (by decide))
              have hcr : (ofM fa i 4).toNatClampNeg = r := by rw [er]; exact nI_clamp (by omega)
              have hng : ¬ ofM fa i 4 < 0 := by rw [er]; exact nI_pos (by omega)
              rw [er]
              clear er
              refine g_aload_n X dX7_findGood_56 rfl 2 rfl rfl ?_
              refine gM_get_good X dX7_findGood_57 hinX70 hl23 rfl ?_
              refine g_iload_n X dX7_findGood_60 rfl 0 rfl rfl ?_
              refine gM_ld_good X dX7_findGood_61 (by first | rfl | assumption) (by omega) rfl ?_
              refine g_topi (fgI_lt (f := fa) (g := fg) (i := i) (k := r) (by omega)) ?_
              refine g_if_eq X dX7_findGood_62 69 (by decide) rfl (fun h62 => ?_) (fun h62 => ?_)
              · replace h62 := b2i_0 h62
                refine g_iconst (v := (0 : Int32)) X dX7_findGood_69 (by decide) rfl ?_
                refine gM_st_good X rfl dX7_findGood_70 (by first | rfl | assumption) (by omega) (by first | rfl | exact b2i_vnar _) rfl ?_
                refine g_iinc (v := nI (i + 1)) X [(1, _), (2, _), (0, _)] dX7_findGood_71 1 rfl (nI_add (i) 1) (by decide) rfl rfl ?_
                refine g_goto X dX7_findGood_74 2 (by decide) ?_
                refine g_lv [0, 2] [(1, _), (0, _)] rfl ?_
                refine g_ws (wM_fg (fgI_s ?_)) ?_
                · rw [gd_step hrt2]; simp [gdStep, rtM, b2i, *]
                exact ih (mk - (i + 1)) (by omega) (i + 1) (by omega) rfl
              · replace h62 := b2i_n0 h62
                refine g_iconst (v := (1 : Int32)) X dX7_findGood_65 (by decide) rfl ?_
                refine g_goto X dX7_findGood_66 70 (by decide) ?_
                refine gM_st_good X rfl dX7_findGood_70 (by first | rfl | assumption) (by omega) (by first | rfl | exact b2i_vnar _) rfl ?_
                refine g_iinc (v := nI (i + 1)) X [(1, _), (2, _), (0, _)] dX7_findGood_71 1 rfl (nI_add (i) 1) (by decide) rfl rfl ?_
                refine g_goto X dX7_findGood_74 2 (by decide) ?_
                refine g_lv [0, 2] [(1, _), (0, _)] rfl ?_
                refine g_ws (wM_fg (fgI_s ?_)) ?_
                · rw [gd_step hrt2]; simp [gdStep, rtM, b2i, *]
                exact ih (mk - (i + 1)) (by omega) (i + 1) (by omega) rfl
  refine g_ws (wM_fg (fgI_0 fa fg).symm) ?_
  exact L2 mk 0 (by omega) (by omega)

set_option maxHeartbeats 4000000 in
set_option maxRecDepth 100000 in
theorem c_X7_reasonAt (l : Launch) (D : DT) (a : Nat → Nat) (fa fp fs fv fg fw fd ft fn : Nat → Int32) (p1 pm wk dm sp iw od : Int32) (q : Nat) (hq : q < 40) (hst : stOK fa q) (b : Bool) (g nd : Int32) : MR l yX7_reasonAt wsX7_reasonAt 2 45 D [.ref (a 0), .int (nI q), .int (b2i b), .int g, .int nd] (wM D a fa fp fs fv fg fw fd ft fn p1 pm wk dm sp iw od) (fun v => v = some (.int (rsnAt fa q b g nd))) := by
  refine MR.of (cc := cX7_reasonAt) (maxL := 5) (ret := (some .int)) (lv := [(0, .ref (a 0)), (1, .int (nI q)), (2, .int (b2i b)), (3, .int g), (4, .int nd)]) (by decide +kernel) rfl (Nat.le_of_ble_eq_true rfl) rfl ?_
  intro p e s m below meth c A X hr hmn
  have hinX70 : ∀ w ∈ wsX70, w ∈ wsX7_reasonAt := fun w h => List.mem_cons_of_mem _ (List.mem_append_right _ h)
  refine g_iload_n X dX7_reasonAt_0 rfl 2 rfl rfl ?_
  refine g_if_eq X dX7_reasonAt_1 16 (by decide) rfl (fun h1 => ?_) (fun h1 => ?_)
  · replace h1 := b2i_0 h1
    refine g_aload_n X dX7_reasonAt_16 rfl 0 rfl rfl ?_
    refine g_iload_n X dX7_reasonAt_17 rfl 1 rfl rfl ?_
    refine g_iconst (v := (5 : Int32)) X dX7_reasonAt_18 (by decide) rfl ?_
    refine g_callVRs (n := 2) (As := [_, _]) (rest := []) X (c_X7_of l D _ _ _ _ _ _ _ _ _ _ _ _ _ _ _ _ _  (q) (5) (by omega) (by omega)) gX7_reasonAt_X7_of rfl (by decide +kernel) ⟨Nat.le_of_ble_eq_true rfl, Nat.le_of_ble_eq_true rfl⟩ rfl rfl  rfl rfl (Nat.le_of_ble_eq_true rfl) dX7_reasonAt_19 ⟨Nat.le_of_ble_eq_true rfl, Nat.le_of_ble_eq_true rfl⟩ rfl (fun v hv => ?_)
    obtain rfl := hv
    refine g_st (st' := [_]) rfl ?_
    refine g_iconst (v := (1 : Int32)) X dX7_reasonAt_22 (by decide) rfl ?_
    refine g_icmp_ne X dX7_reasonAt_23 28 (by decide) rfl (fun h23 => ?_) (fun h23 => ?_)
    · refine g_aload_n X dX7_reasonAt_28 rfl 0 rfl rfl ?_
      refine g_iload_n X dX7_reasonAt_29 rfl 1 rfl rfl ?_
      refine g_bipush (v := (6 : Int32)) X dX7_reasonAt_30 (by decide) rfl ?_
      refine g_callVRs (n := 2) (As := [_, _]) (rest := []) X (c_X7_of l D _ _ _ _ _ _ _ _ _ _ _ _ _ _ _ _ _  (q) (6) (by omega) (by omega)) gX7_reasonAt_X7_of rfl (by decide +kernel) ⟨Nat.le_of_ble_eq_true rfl, Nat.le_of_ble_eq_true rfl⟩ rfl rfl  rfl rfl (Nat.le_of_ble_eq_true rfl) dX7_reasonAt_32 ⟨Nat.le_of_ble_eq_true rfl, Nat.le_of_ble_eq_true rfl⟩ rfl (fun v hv => ?_)
      obtain rfl := hv
      refine g_st (st' := [_]) rfl ?_
      refine g_iconst (v := (1 : Int32)) X dX7_reasonAt_35 (by decide) rfl ?_
      refine g_icmp_ne X dX7_reasonAt_36 41 (by decide) rfl (fun h36 => ?_) (fun h36 => ?_)
      · refine g_iload_n X dX7_reasonAt_41 rfl 2 rfl rfl ?_
        refine g_if_eq X dX7_reasonAt_42 59 (by decide) rfl (fun h42 => ?_) (fun h42 => ?_)
        · replace h42 := b2i_0 h42
          refine g_aload_n X dX7_reasonAt_59 rfl 0 rfl rfl ?_
          refine g_iload_n X dX7_reasonAt_60 rfl 1 rfl rfl ?_
          refine g_callVRs (n := 1) (As := [_]) (rest := []) X (c_X7_isBased l D _ _ _ _ _ _ _ _ _ _ _ _ _ _ _ _ _  (q) (by omega) hst) gX7_reasonAt_X7_isBased rfl (by decide +kernel) ⟨Nat.le_of_ble_eq_true rfl, Nat.le_of_ble_eq_true rfl⟩ rfl rfl  rfl rfl (Nat.le_of_ble_eq_true rfl) dX7_reasonAt_61 ⟨Nat.le_of_ble_eq_true rfl, Nat.le_of_ble_eq_true rfl⟩ rfl (fun v hv => ?_)
          obtain rfl := hv
          refine g_st (st' := [_]) rfl ?_
          refine g_if_eq X dX7_reasonAt_64 71 (by decide) rfl (fun h64 => ?_) (fun h64 => ?_)
          · replace h64 := b2i_0 h64
            refine g_bipush (v := (6 : Int32)) X dX7_reasonAt_71 (by decide) rfl ?_
            refine g_retR X hr (by first | rfl | exact b2i_nar _) dX7_reasonAt_73 ?_
            exact congrArg (fun x => some (Value.int x)) (by first | (simp [rsnAt, *]; done) | simp_all [rsnAt])
          · replace h64 := b2i_n0 h64
            refine g_iconst (v := (0 : Int32)) X dX7_reasonAt_67 (by decide) rfl ?_
            refine g_goto X dX7_reasonAt_68 73 (by decide) ?_
            refine g_retR X hr (by first | rfl | exact b2i_nar _) dX7_reasonAt_73 ?_
            exact congrArg (fun x => some (Value.int x)) (by first | (simp [rsnAt, *]; done) | simp_all [rsnAt])
        · replace h42 := b2i_n0 h42
          refine g_aload_n X dX7_reasonAt_45 rfl 0 rfl rfl ?_
          refine g_iload_n X dX7_reasonAt_46 rfl 1 rfl rfl ?_
          refine g_iconst (v := (3 : Int32)) X dX7_reasonAt_47 (by decide) rfl ?_
          refine g_callVRs (n := 2) (As := [_, _]) (rest := []) X (c_X7_of l D _ _ _ _ _ _ _ _ _ _ _ _ _ _ _ _ _  (q) (3) (by omega) (by omega)) gX7_reasonAt_X7_of rfl (by decide +kernel) ⟨Nat.le_of_ble_eq_true rfl, Nat.le_of_ble_eq_true rfl⟩ rfl rfl  rfl rfl (Nat.le_of_ble_eq_true rfl) dX7_reasonAt_48 ⟨Nat.le_of_ble_eq_true rfl, Nat.le_of_ble_eq_true rfl⟩ rfl (fun v hv => ?_)
          obtain rfl := hv
          refine g_st (st' := [_]) rfl ?_
          refine g_iload X dX7_reasonAt_51 4 rfl rfl ?_
          refine g_iand X dX7_reasonAt_53 rfl ?_
          refine g_if_ne X dX7_reasonAt_54 59 (by decide) rfl (fun h54 => ?_) (fun h54 => ?_)
          · refine g_aload_n X dX7_reasonAt_59 rfl 0 rfl rfl ?_
            refine g_iload_n X dX7_reasonAt_60 rfl 1 rfl rfl ?_
            refine g_callVRs (n := 1) (As := [_]) (rest := []) X (c_X7_isBased l D _ _ _ _ _ _ _ _ _ _ _ _ _ _ _ _ _  (q) (by omega) hst) gX7_reasonAt_X7_isBased rfl (by decide +kernel) ⟨Nat.le_of_ble_eq_true rfl, Nat.le_of_ble_eq_true rfl⟩ rfl rfl  rfl rfl (Nat.le_of_ble_eq_true rfl) dX7_reasonAt_61 ⟨Nat.le_of_ble_eq_true rfl, Nat.le_of_ble_eq_true rfl⟩ rfl (fun v hv => ?_)
            obtain rfl := hv
            refine g_st (st' := [_]) rfl ?_
            refine g_if_eq X dX7_reasonAt_64 71 (by decide) rfl (fun h64 => ?_) (fun h64 => ?_)
            · replace h64 := b2i_0 h64
              refine g_bipush (v := (6 : Int32)) X dX7_reasonAt_71 (by decide) rfl ?_
              refine g_retR X hr (by first | rfl | exact b2i_nar _) dX7_reasonAt_73 ?_
              exact congrArg (fun x => some (Value.int x)) (by first | (simp [rsnAt, *]; done) | simp_all [rsnAt])
            · replace h64 := b2i_n0 h64
              refine g_iconst (v := (0 : Int32)) X dX7_reasonAt_67 (by decide) rfl ?_
              refine g_goto X dX7_reasonAt_68 73 (by decide) ?_
              refine g_retR X hr (by first | rfl | exact b2i_nar _) dX7_reasonAt_73 ?_
              exact congrArg (fun x => some (Value.int x)) (by first | (simp [rsnAt, *]; done) | simp_all [rsnAt])
          · refine g_iconst (v := (5 : Int32)) X dX7_reasonAt_57 (by decide) rfl ?_
            refine g_retR X hr (by first | rfl | exact b2i_nar _) dX7_reasonAt_58 ?_
            exact congrArg (fun x => some (Value.int x)) (by first | (simp [rsnAt, *]; done) | simp_all [rsnAt])
      · refine g_iconst (v := (4 : Int32)) X dX7_reasonAt_39 (by decide) rfl ?_
        refine g_retR X hr (by first | rfl | exact b2i_nar _) dX7_reasonAt_40 ?_
        exact congrArg (fun x => some (Value.int x)) (by first | (simp [rsnAt, *]; done) | simp_all [rsnAt])
    · refine g_iconst (v := (3 : Int32)) X dX7_reasonAt_26 (by decide) rfl ?_
      refine g_retR X hr (by first | rfl | exact b2i_nar _) dX7_reasonAt_27 ?_
      exact congrArg (fun x => some (Value.int x)) (by first | (simp [rsnAt, *]; done) | simp_all [rsnAt])
  · replace h1 := b2i_n0 h1
    refine g_aload_n X dX7_reasonAt_4 rfl 0 rfl rfl ?_
    refine g_iload_n X dX7_reasonAt_5 rfl 1 rfl rfl ?_
    refine g_iconst (v := (2 : Int32)) X dX7_reasonAt_6 (by decide) rfl ?_
    refine g_callVRs (n := 2) (As := [_, _]) (rest := []) X (c_X7_of l D _ _ _ _ _ _ _ _ _ _ _ _ _ _ _ _ _  (q) (2) (by omega) (by omega)) gX7_reasonAt_X7_of rfl (by decide +kernel) ⟨Nat.le_of_ble_eq_true rfl, Nat.le_of_ble_eq_true rfl⟩ rfl rfl  rfl rfl (Nat.le_of_ble_eq_true rfl) dX7_reasonAt_7 ⟨Nat.le_of_ble_eq_true rfl, Nat.le_of_ble_eq_true rfl⟩ rfl (fun v hv => ?_)
    obtain rfl := hv
    refine g_st (st' := [_]) rfl ?_
    refine g_iload_n X dX7_reasonAt_10 rfl 3 rfl rfl ?_
    refine g_icmp_eq X dX7_reasonAt_11 16 (by decide) rfl (fun h11 => ?_) (fun h11 => ?_)
    · refine g_aload_n X dX7_reasonAt_16 rfl 0 rfl rfl ?_
      refine g_iload_n X dX7_reasonAt_17 rfl 1 rfl rfl ?_
      refine g_iconst (v := (5 : Int32)) X dX7_reasonAt_18 (by decide) rfl ?_
      refine g_callVRs (n := 2) (As := [_, _]) (rest := []) X (c_X7_of l D _ _ _ _ _ _ _ _ _ _ _ _ _ _ _ _ _  (q) (5) (by omega) (by omega)) gX7_reasonAt_X7_of rfl (by decide +kernel) ⟨Nat.le_of_ble_eq_true rfl, Nat.le_of_ble_eq_true rfl⟩ rfl rfl  rfl rfl (Nat.le_of_ble_eq_true rfl) dX7_reasonAt_19 ⟨Nat.le_of_ble_eq_true rfl, Nat.le_of_ble_eq_true rfl⟩ rfl (fun v hv => ?_)
      obtain rfl := hv
      refine g_st (st' := [_]) rfl ?_
      refine g_iconst (v := (1 : Int32)) X dX7_reasonAt_22 (by decide) rfl ?_
      refine g_icmp_ne X dX7_reasonAt_23 28 (by decide) rfl (fun h23 => ?_) (fun h23 => ?_)
      · refine g_aload_n X dX7_reasonAt_28 rfl 0 rfl rfl ?_
        refine g_iload_n X dX7_reasonAt_29 rfl 1 rfl rfl ?_
        refine g_bipush (v := (6 : Int32)) X dX7_reasonAt_30 (by decide) rfl ?_
        refine g_callVRs (n := 2) (As := [_, _]) (rest := []) X (c_X7_of l D _ _ _ _ _ _ _ _ _ _ _ _ _ _ _ _ _  (q) (6) (by omega) (by omega)) gX7_reasonAt_X7_of rfl (by decide +kernel) ⟨Nat.le_of_ble_eq_true rfl, Nat.le_of_ble_eq_true rfl⟩ rfl rfl  rfl rfl (Nat.le_of_ble_eq_true rfl) dX7_reasonAt_32 ⟨Nat.le_of_ble_eq_true rfl, Nat.le_of_ble_eq_true rfl⟩ rfl (fun v hv => ?_)
        obtain rfl := hv
        refine g_st (st' := [_]) rfl ?_
        refine g_iconst (v := (1 : Int32)) X dX7_reasonAt_35 (by decide) rfl ?_
        refine g_icmp_ne X dX7_reasonAt_36 41 (by decide) rfl (fun h36 => ?_) (fun h36 => ?_)
        · refine g_iload_n X dX7_reasonAt_41 rfl 2 rfl rfl ?_
          refine g_if_eq X dX7_reasonAt_42 59 (by decide) rfl (fun h42 => ?_) (fun h42 => ?_)
          · replace h42 := b2i_0 h42
            refine g_aload_n X dX7_reasonAt_59 rfl 0 rfl rfl ?_
            refine g_iload_n X dX7_reasonAt_60 rfl 1 rfl rfl ?_
            refine g_callVRs (n := 1) (As := [_]) (rest := []) X (c_X7_isBased l D _ _ _ _ _ _ _ _ _ _ _ _ _ _ _ _ _  (q) (by omega) hst) gX7_reasonAt_X7_isBased rfl (by decide +kernel) ⟨Nat.le_of_ble_eq_true rfl, Nat.le_of_ble_eq_true rfl⟩ rfl rfl  rfl rfl (Nat.le_of_ble_eq_true rfl) dX7_reasonAt_61 ⟨Nat.le_of_ble_eq_true rfl, Nat.le_of_ble_eq_true rfl⟩ rfl (fun v hv => ?_)
            obtain rfl := hv
            refine g_st (st' := [_]) rfl ?_
            refine g_if_eq X dX7_reasonAt_64 71 (by decide) rfl (fun h64 => ?_) (fun h64 => ?_)
            · replace h64 := b2i_0 h64
              refine g_bipush (v := (6 : Int32)) X dX7_reasonAt_71 (by decide) rfl ?_
              refine g_retR X hr (by first | rfl | exact b2i_nar _) dX7_reasonAt_73 ?_
              exact congrArg (fun x => some (Value.int x)) (by first | (simp [rsnAt, *]; done) | simp_all [rsnAt])
            · replace h64 := b2i_n0 h64
              refine g_iconst (v := (0 : Int32)) X dX7_reasonAt_67 (by decide) rfl ?_
              refine g_goto X dX7_reasonAt_68 73 (by decide) ?_
              refine g_retR X hr (by first | rfl | exact b2i_nar _) dX7_reasonAt_73 ?_
              exact congrArg (fun x => some (Value.int x)) (by first | (simp [rsnAt, *]; done) | simp_all [rsnAt])
          · replace h42 := b2i_n0 h42
            refine g_aload_n X dX7_reasonAt_45 rfl 0 rfl rfl ?_
            refine g_iload_n X dX7_reasonAt_46 rfl 1 rfl rfl ?_
            refine g_iconst (v := (3 : Int32)) X dX7_reasonAt_47 (by decide) rfl ?_
            refine g_callVRs (n := 2) (As := [_, _]) (rest := []) X (c_X7_of l D _ _ _ _ _ _ _ _ _ _ _ _ _ _ _ _ _  (q) (3) (by omega) (by omega)) gX7_reasonAt_X7_of rfl (by decide +kernel) ⟨Nat.le_of_ble_eq_true rfl, Nat.le_of_ble_eq_true rfl⟩ rfl rfl  rfl rfl (Nat.le_of_ble_eq_true rfl) dX7_reasonAt_48 ⟨Nat.le_of_ble_eq_true rfl, Nat.le_of_ble_eq_true rfl⟩ rfl (fun v hv => ?_)
            obtain rfl := hv
            refine g_st (st' := [_]) rfl ?_
            refine g_iload X dX7_reasonAt_51 4 rfl rfl ?_
            refine g_iand X dX7_reasonAt_53 rfl ?_
            refine g_if_ne X dX7_reasonAt_54 59 (by decide) rfl (fun h54 => ?_) (fun h54 => ?_)
            · refine g_aload_n X dX7_reasonAt_59 rfl 0 rfl rfl ?_
              refine g_iload_n X dX7_reasonAt_60 rfl 1 rfl rfl ?_
              refine g_callVRs (n := 1) (As := [_]) (rest := []) X (c_X7_isBased l D _ _ _ _ _ _ _ _ _ _ _ _ _ _ _ _ _  (q) (by omega) hst) gX7_reasonAt_X7_isBased rfl (by decide +kernel) ⟨Nat.le_of_ble_eq_true rfl, Nat.le_of_ble_eq_true rfl⟩ rfl rfl  rfl rfl (Nat.le_of_ble_eq_true rfl) dX7_reasonAt_61 ⟨Nat.le_of_ble_eq_true rfl, Nat.le_of_ble_eq_true rfl⟩ rfl (fun v hv => ?_)
              obtain rfl := hv
              refine g_st (st' := [_]) rfl ?_
              refine g_if_eq X dX7_reasonAt_64 71 (by decide) rfl (fun h64 => ?_) (fun h64 => ?_)
              · replace h64 := b2i_0 h64
                refine g_bipush (v := (6 : Int32)) X dX7_reasonAt_71 (by decide) rfl ?_
                refine g_retR X hr (by first | rfl | exact b2i_nar _) dX7_reasonAt_73 ?_
                exact congrArg (fun x => some (Value.int x)) (by first | (simp [rsnAt, *]; done) | simp_all [rsnAt])
              · replace h64 := b2i_n0 h64
                refine g_iconst (v := (0 : Int32)) X dX7_reasonAt_67 (by decide) rfl ?_
                refine g_goto X dX7_reasonAt_68 73 (by decide) ?_
                refine g_retR X hr (by first | rfl | exact b2i_nar _) dX7_reasonAt_73 ?_
                exact congrArg (fun x => some (Value.int x)) (by first | (simp [rsnAt, *]; done) | simp_all [rsnAt])
            · refine g_iconst (v := (5 : Int32)) X dX7_reasonAt_57 (by decide) rfl ?_
              refine g_retR X hr (by first | rfl | exact b2i_nar _) dX7_reasonAt_58 ?_
              exact congrArg (fun x => some (Value.int x)) (by first | (simp [rsnAt, *]; done) | simp_all [rsnAt])
        · refine g_iconst (v := (4 : Int32)) X dX7_reasonAt_39 (by decide) rfl ?_
          refine g_retR X hr (by first | rfl | exact b2i_nar _) dX7_reasonAt_40 ?_
          exact congrArg (fun x => some (Value.int x)) (by first | (simp [rsnAt, *]; done) | simp_all [rsnAt])
      · refine g_iconst (v := (3 : Int32)) X dX7_reasonAt_26 (by decide) rfl ?_
        refine g_retR X hr (by first | rfl | exact b2i_nar _) dX7_reasonAt_27 ?_
        exact congrArg (fun x => some (Value.int x)) (by first | (simp [rsnAt, *]; done) | simp_all [rsnAt])
    · refine g_iconst (v := (2 : Int32)) X dX7_reasonAt_14 (by decide) rfl ?_
      refine g_retR X hr (by first | rfl | exact b2i_nar _) dX7_reasonAt_15 ?_
      exact congrArg (fun x => some (Value.int x)) (by first | (simp [rsnAt, *]; done) | simp_all [rsnAt])

set_option maxHeartbeats 4000000 in
set_option maxRecDepth 100000 in
theorem c_X7_takeNote (l : Launch) (D : DT) (a : Nat → Nat) (fa fp fs fv fg fw fd ft fn : Nat → Int32) (p1 pm wk dm sp iw od : Int32) (nn q : Nat) (hnn : fa 90 = nI nn) (h9 : nn ≤ 9) (hq : q < nn) : MW l yX7_takeNote wsX7_takeNote 0 0 0 0 D [.ref (a 0), .int (nI q)] (wM D a fa fp fs fv fg fw fd ft fn p1 pm wk dm sp iw od) (fun v w => v = none ∧ w = (wM D a (tkF fa nn q) fp fs fv fg fw fd ft fn p1 pm wk dm sp iw od)) := by
  refine MW.of (cc := cX7_takeNote) (maxL := 3) (ret := none) (lv := [(0, .ref (a 0)), (1, .int (nI q))]) (by decide +kernel) rfl (Nat.le_of_ble_eq_true rfl) rfl ?_
  intro p e s m below meth c A hAe hAg X hr hmn
  have hinX70 : ∀ w ∈ wsX70, w ∈ wsX7_takeNote := fun w h => List.mem_cons_of_mem _ (List.mem_append_right _ h)
  have hl7 := List.mem_of_getElem? (l := wsX7_takeNote) (i := 1) rfl
  refine g_aload_n X dX7_takeNote_0 rfl 0 rfl rfl ?_
  refine gM_get_at X dX7_takeNote_1 hinX70 hl7 rfl ?_
  refine g_bipush (v := (90 : Int32)) X dX7_takeNote_4 (by decide) rfl ?_
  refine g_dup2 X dX7_takeNote_6 rfl rfl rfl ?_
  refine gM_ld_at X dX7_takeNote_7 (k := 90) rfl (by decide) rfl ?_
  refine g_iconst (v := (1 : Int32)) X dX7_takeNote_8 (by decide) rfl ?_
  refine g_isub X dX7_takeNote_9 rfl ?_
  refine g_topi (y := nI (nn - 1)) (by rw [hnn]; exact pk_sub (a := nn) (b := 1) (by omega)) ?_
  refine gM_st_at X rfl dX7_takeNote_10 (k := 90) rfl (by decide) rfl ?_
  refine g_bipush (v := (91 : Int32)) X dX7_takeNote_11 (by decide) rfl ?_
  refine g_iconst (v := (4 : Int32)) X dX7_takeNote_13 (by decide) rfl ?_
  refine g_iload_n X dX7_takeNote_14 rfl 1 rfl rfl ?_
  refine g_imul X dX7_takeNote_15 rfl ?_
  refine g_topi (y := nI (4 * q)) (pk_mul (4) (q)) ?_
  refine g_iadd X dX7_takeNote_16 rfl ?_
  refine g_topi (y := nI (91 + (4 * q))) (nI_add (91) ((4 * q))) ?_
  refine g_istore_n X [(2, _), (0, _), (1, _)] dX7_takeNote_17 rfl (by decide) rfl rfl ?_
  have L18 : ∀ (n : Nat) (j : Nat) (hj : 91 + 4 * q ≤ j) (hj2 : j ≤ 91 + 4 * (nn - 1)) (hn : 91 + 4 * (nn - 1) - j = n), GG p l e (wRoom 0 0 0 0) s m ([.ref (a 0), .int (nI q)] : List Value).toArray below meth c D A 3 false 0 0 (MQ below (wrQ D (wM D a fa fp fs fv fg fw fd ft fn p1 pm wk dm sp iw od) s.heap.size (fun v w => v = none ∧ w = (wM D a (tkF fa nn q) fp fs fv fg fw fd ft fn p1 pm wk dm sp iw od))) ([.ref (a 0), .int (nI q)] : List Value).toArray s 0 0 (va_A (wM D a fa fp fs fv fg fw fd ft fn p1 pm wk dm sp iw od) s.heap.size)) (wM D a (tkI fa nn q j) fp fs fv fg fw fd ft fn p1 pm wk dm sp iw od) 18 [(2, .int (nI j)), (0, .ref (a 0))] [] := by
    intro n
    induction n using Nat.strongRecOn with
    | _ n ih =>
    intro j hj hj2 hn
    refine g_iload_n X dX7_takeNote_18 rfl 0 rfl rfl ?_
    refine g_bipush (v := (91 : Int32)) X dX7_takeNote_19 (by decide) rfl ?_
    refine g_iconst (v := (4 : Int32)) X dX7_takeNote_21 (by decide) rfl ?_
    refine g_aload_n X dX7_takeNote_22 rfl 1 rfl rfl ?_
    refine gM_get_at X dX7_takeNote_23 hinX70 hl7 rfl ?_
    refine g_bipush (v := (90 : Int32)) X dX7_takeNote_26 (by decide) rfl ?_
    refine gM_ld_at X dX7_takeNote_28 (k := 90) rfl (by decide) rfl ?_
    refine g_topi (tkI_90) ?_
    refine g_imul X dX7_takeNote_29 rfl ?_
    refine g_topi (y := nI (4 * (nn - 1))) (pk_mul (4) ((nn - 1))) ?_
    refine g_iadd X dX7_takeNote_30 rfl ?_
    refine g_topi (y := nI (91 + (4 * (nn - 1)))) (nI_add (91) ((4 * (nn - 1)))) ?_
    refine g_icmp_ge X dX7_takeNote_31 54 (by decide) rfl (fun h31 => ?_) (fun h31 => ?_)
    · have i31 := nj_le (a := (91 + (4 * (nn - 1)))) (b := j) (by omega) (by omega) h31
      refine g_vretW X hr dX7_takeNote_54 hAe ?_
      have hjj : j = 91 + 4 * (nn - 1) := by omega
      subst hjj
      exact ⟨rfl, rfl⟩
    · have i31 := nj_nle (a := (91 + (4 * (nn - 1)))) (b := j) (by omega) (by omega) h31
      refine g_aload_n X dX7_takeNote_34 rfl 1 rfl rfl ?_
      refine gM_get_at X dX7_takeNote_35 hinX70 hl7 rfl ?_
      refine g_iload_n X dX7_takeNote_38 rfl 0 rfl rfl ?_
      refine g_aload_n X dX7_takeNote_39 rfl 1 rfl rfl ?_
      refine gM_get_at X dX7_takeNote_40 hinX70 hl7 rfl ?_
      refine g_iload_n X dX7_takeNote_43 rfl 0 rfl rfl ?_
      refine g_iconst (v := (4 : Int32)) X dX7_takeNote_44 (by decide) rfl ?_
      refine g_iadd X dX7_takeNote_45 rfl ?_
      refine g_topi (y := nI (j + 4)) (nI_add (j) (4)) ?_
      refine gM_ld_at X dX7_takeNote_46 (by first | rfl | assumption) (by omega) rfl ?_
      refine g_topi (tkI_hi (by omega) (by omega)) ?_
      refine gM_st_at X rfl dX7_takeNote_47 (by first | rfl | assumption) (by omega) rfl ?_
      refine g_iinc (v := nI (j + 1)) X [(2, _), (0, _)] dX7_takeNote_48 0 rfl (nI_add (j) 1) (by decide) rfl rfl ?_
      refine g_goto X dX7_takeNote_51 18 (by decide) ?_
      refine g_ws (wM_fa (tkI_s (by omega))) ?_
      exact ih (91 + 4 * (nn - 1) - (j + 1)) (by omega) (j + 1) (by omega) (by omega) rfl
  refine g_lv [0, 1] [(2, _), (0, _)] rfl ?_
  refine g_ws (wM_fa (tkI_0 fa nn q)) ?_
  exact L18 _ (91 + 4 * q) (by omega) (by omega) rfl

set_option maxHeartbeats 4000000 in
set_option maxRecDepth 100000 in
theorem c_X7_putNote (l : Launch) (D : DT) (a : Nat → Nat) (fa fp fs fv fg fw fd ft fn : Nat → Int32) (p1 pm wk dm sp iw od : Int32) (nn : Nat) (hnn : fa 90 = nI nn) (h8 : nn ≤ 8) (g d nd q : Int32) : MW l yX7_putNote wsX7_putNote 0 0 0 0 D [.ref (a 0), .int g, .int d, .int nd, .int q] (wM D a fa fp fs fv fg fw fd ft fn p1 pm wk dm sp iw od) (fun v w => v = none ∧ w = (wM D a (pnF fa nn g d nd q) fp fs fv fg fw fd ft fn p1 pm wk dm sp iw od)) := by
  refine MW.of (cc := cX7_putNote) (maxL := 6) (ret := none) (lv := [(0, .ref (a 0)), (1, .int g), (2, .int d), (3, .int nd), (4, .int q)]) (by decide +kernel) rfl (Nat.le_of_ble_eq_true rfl) rfl ?_
  intro p e s m below meth c A hAe hAg X hr hmn
  have hinX70 : ∀ w ∈ wsX70, w ∈ wsX7_putNote := fun w h => List.mem_cons_of_mem _ (List.mem_append_right _ h)
  have hl7 := List.mem_of_getElem? (l := wsX7_putNote) (i := 1) rfl
  refine g_bipush (v := (91 : Int32)) X dX7_putNote_0 (by decide) rfl ?_
  refine g_iconst (v := (4 : Int32)) X dX7_putNote_2 (by decide) rfl ?_
  refine g_aload_n X dX7_putNote_3 rfl 0 rfl rfl ?_
  refine gM_get_at X dX7_putNote_4 hinX70 hl7 rfl ?_
  refine g_bipush (v := (90 : Int32)) X dX7_putNote_7 (by decide) rfl ?_
  refine gM_ld_at X dX7_putNote_9 (k := 90) rfl (by decide) rfl ?_
  refine g_topi (hnn) ?_
  refine g_imul X dX7_putNote_10 rfl ?_
  refine g_topi (y := nI (4 * nn)) (pk_mul (4) (nn)) ?_
  refine g_iadd X dX7_putNote_11 rfl ?_
  refine g_topi (y := nI (91 + (4 * nn))) (nI_add (91) ((4 * nn))) ?_
  refine g_istore X [(5, _), (0, _), (1, _), (2, _), (3, _), (4, _)] dX7_putNote_12 (by decide) rfl rfl ?_
  refine g_aload_n X dX7_putNote_14 rfl 1 rfl rfl ?_
  refine gM_get_at X dX7_putNote_15 hinX70 hl7 rfl ?_
  refine g_iload X dX7_putNote_18 0 rfl rfl ?_
  refine g_iload_n X dX7_putNote_20 rfl 2 rfl rfl ?_
  refine gM_st_at X rfl dX7_putNote_21 (by first | rfl | assumption) (by omega) rfl ?_
  refine g_aload_n X dX7_putNote_22 rfl 1 rfl rfl ?_
  refine gM_get_at X dX7_putNote_23 hinX70 hl7 rfl ?_
  refine g_iload X dX7_putNote_26 0 rfl rfl ?_
  refine g_iconst (v := (1 : Int32)) X dX7_putNote_28 (by decide) rfl ?_
  refine g_iadd X dX7_putNote_29 rfl ?_
  refine g_topi (y := nI ((91 + (4 * nn)) + 1)) (nI_add ((91 + (4 * nn))) (1)) ?_
  refine g_iload_n X dX7_putNote_30 rfl 3 rfl rfl ?_
  refine gM_st_at X rfl dX7_putNote_31 (by first | rfl | assumption) (by omega) rfl ?_
  refine g_aload_n X dX7_putNote_32 rfl 1 rfl rfl ?_
  refine gM_get_at X dX7_putNote_33 hinX70 hl7 rfl ?_
  refine g_iload X dX7_putNote_36 0 rfl rfl ?_
  refine g_iconst (v := (2 : Int32)) X dX7_putNote_38 (by decide) rfl ?_
  refine g_iadd X dX7_putNote_39 rfl ?_
  refine g_topi (y := nI ((91 + (4 * nn)) + 2)) (nI_add ((91 + (4 * nn))) (2)) ?_
  refine g_iload_n X dX7_putNote_40 rfl 4 rfl rfl ?_
  refine gM_st_at X rfl dX7_putNote_41 (by first | rfl | assumption) (by omega) rfl ?_
  refine g_aload_n X dX7_putNote_42 rfl 1 rfl rfl ?_
  refine gM_get_at X dX7_putNote_43 hinX70 hl7 rfl ?_
  refine g_iload X dX7_putNote_46 0 rfl rfl ?_
  refine g_iconst (v := (3 : Int32)) X dX7_putNote_48 (by decide) rfl ?_
  refine g_iadd X dX7_putNote_49 rfl ?_
  refine g_topi (y := nI ((91 + (4 * nn)) + 3)) (nI_add ((91 + (4 * nn))) (3)) ?_
  refine g_iload X dX7_putNote_50 5 rfl rfl ?_
  refine gM_st_at X rfl dX7_putNote_52 (by first | rfl | assumption) (by omega) rfl ?_
  refine g_aload_n X dX7_putNote_53 rfl 1 rfl rfl ?_
  refine gM_get_at X dX7_putNote_54 hinX70 hl7 rfl ?_
  refine g_bipush (v := (90 : Int32)) X dX7_putNote_57 (by decide) rfl ?_
  refine g_dup2 X dX7_putNote_59 rfl rfl rfl ?_
  refine gM_ld_at X dX7_putNote_60 (k := 90) rfl (by decide) rfl ?_
  refine g_topi (show _ = nI nn from by rw [up_n _ _ (by omega), up_n _ _ (by omega), up_n _ _ (by omega), up_n _ _ (by omega)]; exact hnn) ?_
  refine g_iconst (v := (1 : Int32)) X dX7_putNote_61 (by decide) rfl ?_
  refine g_iadd X dX7_putNote_62 rfl ?_
  refine g_topi (y := nI (nn + 1)) (nI_add (nn) (1)) ?_
  refine gM_st_at X rfl dX7_putNote_63 (k := 90) rfl (by decide) rfl ?_
  refine g_vretW X hr dX7_putNote_64 hAe ?_
  exact ⟨rfl, rfl⟩

set_option maxHeartbeats 4000000 in
set_option maxRecDepth 100000 in
theorem c_X7_findNote (l : Launch) (D : DT) (a : Nat → Nat) (fa fp fs fv fg fw fd ft fn : Nat → Int32) (p1 pm wk dm sp iw od : Int32) (nn : Nat) (hnn : fa 90 = nI nn) (h9 : nn ≤ 9) (g d nd : Int32) : MR l yX7_findNote wsX7_findNote 1 22 D [.ref (a 0), .int g, .int d, .int nd] (wM D a fa fp fs fv fg fw fd ft fn p1 pm wk dm sp iw od) (fun v => v = some (.int (fndI (isNote fa g d nd) nn 0))) := by
  refine MR.of (cc := cX7_findNote) (maxL := 5) (ret := (some .int)) (lv := [(0, .ref (a 0)), (1, .int g), (2, .int d), (3, .int nd)]) (by decide +kernel) rfl (Nat.le_of_ble_eq_true rfl) rfl ?_
  intro p e s m below meth c A X hr hmn
  have hinX70 : ∀ w ∈ wsX70, w ∈ wsX7_findNote := fun w h => List.mem_cons_of_mem _ (List.mem_append_right _ h)
  have hl7 := List.mem_of_getElem? (l := wsX7_findNote) (i := 1) rfl
  refine g_iconst (v := (0 : Int32)) X dX7_findNote_0 (by decide) rfl ?_
  refine g_istore X [(4, _), (0, _), (1, _), (2, _), (3, _)] dX7_findNote_1 (by decide) rfl rfl ?_
  have L3 : ∀ (n i : Nat) (hi : i + n = nn) (hR : fndI (isNote fa g d nd) n i = fndI (isNote fa g d nd) nn 0), GG p l e (wRoom 1 22 0 0) s m ([.ref (a 0), .int g, .int d, .int nd] : List Value).toArray below meth c D A 5 true 0 0 (MQ below (roQ (fun v => v = some (.int (fndI (isNote fa g d nd) nn 0)))) ([.ref (a 0), .int g, .int d, .int nd] : List Value).toArray s 0 0 (fun _ => False)) (wM D a fa fp fs fv fg fw fd ft fn p1 pm wk dm sp iw od) 3 [(4, .int (nI i)), (0, .ref (a 0)), (1, .int g), (2, .int d), (3, .int nd)] [] := by
    intro n
    induction n with
    | zero =>
      intro i hi hR
      refine g_iload X dX7_findNote_3 0 rfl rfl ?_
      refine g_aload_n X dX7_findNote_5 rfl 1 rfl rfl ?_
      refine gM_get_at X dX7_findNote_6 hinX70 hl7 rfl ?_
      refine g_bipush (v := (90 : Int32)) X dX7_findNote_9 (by decide) rfl ?_
      refine gM_ld_at X dX7_findNote_11 (k := 90) rfl (by decide) rfl ?_
      refine g_topi hnn ?_
      refine g_icmp_ge X dX7_findNote_12 57 (by decide) rfl (fun h12 => ?_) (fun h12 => absurd (nI_le (a := nn) (b := i) (by omega) (by omega)) h12)
      refine g_bipush (v := ((-6) : Int32)) X dX7_findNote_57 (by decide) rfl ?_
      refine g_retR X hr rfl dX7_findNote_59 ?_
      exact congrArg (fun x => some (Value.int x)) hR
    | succ n ih =>
    intro i hi hR
    refine g_iload X dX7_findNote_3 0 rfl rfl ?_
    refine g_aload_n X dX7_findNote_5 rfl 1 rfl rfl ?_
    refine gM_get_at X dX7_findNote_6 hinX70 hl7 rfl ?_
    refine g_bipush (v := (90 : Int32)) X dX7_findNote_9 (by decide) rfl ?_
    refine gM_ld_at X dX7_findNote_11 (k := 90) rfl (by decide) rfl ?_
    refine g_topi (hnn) ?_
    refine g_icmp_ge X dX7_findNote_12 57 (by decide) rfl (fun h12 => ?_) (fun h12 => ?_)
    · have i12 := nj_le (a := nn) (b := i) (by omega) (by omega) h12
      refine g_bipush (v := ((-6) : Int32)) X dX7_findNote_57 (by decide) rfl ?_
      refine g_retR X hr (by first | rfl | exact b2i_nar _) dX7_findNote_59 ?_
      exact absurd i12 (by omega)
    · have i12 := nj_nle (a := nn) (b := i) (by omega) (by omega) h12
      refine g_aload_n X dX7_findNote_15 rfl 1 rfl rfl ?_
      refine g_iload X dX7_findNote_16 0 rfl rfl ?_
      refine g_iconst (v := (0 : Int32)) X dX7_findNote_18 (by decide) rfl ?_
      refine g_callVRs (n := 2) (As := [_, _]) (rest := []) X (c_X7_ofNote l D _ _ _ _ _ _ _ _ _ _ _ _ _ _ _ _ _  (i) (0) (by omega) (by omega)) gX7_findNote_X7_ofNote rfl (by decide +kernel) ⟨Nat.le_of_ble_eq_true rfl, Nat.le_of_ble_eq_true rfl⟩ rfl rfl  rfl rfl (Nat.le_of_ble_eq_true rfl) dX7_findNote_19 ⟨Nat.le_of_ble_eq_true rfl, Nat.le_of_ble_eq_true rfl⟩ rfl (fun v hv => ?_)
      obtain rfl := hv
      refine g_st (st' := [_]) rfl ?_
      refine g_iload_n X dX7_findNote_22 rfl 2 rfl rfl ?_
      refine g_icmp_ne X dX7_findNote_23 51 (by decide) rfl (fun h23 => ?_) (fun h23 => ?_)
      · refine g_iinc (v := nI (i + 1)) X [(4, _), (0, _), (1, _), (2, _), (3, _)] dX7_findNote_51 0 rfl (nI_add (i) 1) (by decide) rfl rfl ?_
        refine g_goto X dX7_findNote_54 3 (by decide) ?_
        exact ih (i + 1) (by omega) (by rw [← hR, fndI, if_neg (by simp [isNote, *])])
      · refine g_aload_n X dX7_findNote_26 rfl 1 rfl rfl ?_
        refine g_iload X dX7_findNote_27 0 rfl rfl ?_
        refine g_iconst (v := (1 : Int32)) X dX7_findNote_29 (by decide) rfl ?_
        refine g_callVRs (n := 2) (As := [_, _]) (rest := []) X (c_X7_ofNote l D _ _ _ _ _ _ _ _ _ _ _ _ _ _ _ _ _  (i) (1) (by omega) (by omega)) gX7_findNote_X7_ofNote rfl (by decide +kernel) ⟨Nat.le_of_ble_eq_true rfl, Nat.le_of_ble_eq_true rfl⟩ rfl rfl  rfl rfl (Nat.le_of_ble_eq_true rfl) dX7_findNote_30 ⟨Nat.le_of_ble_eq_true rfl, Nat.le_of_ble_eq_true rfl⟩ rfl (fun v hv => ?_)
        obtain rfl := hv
        refine g_st (st' := [_]) rfl ?_
        refine g_iload_n X dX7_findNote_33 rfl 3 rfl rfl ?_
        refine g_icmp_ne X dX7_findNote_34 51 (by decide) rfl (fun h34 => ?_) (fun h34 => ?_)
        · refine g_iinc (v := nI (i + 1)) X [(4, _), (0, _), (1, _), (2, _), (3, _)] dX7_findNote_51 0 rfl (nI_add (i) 1) (by decide) rfl rfl ?_
          refine g_goto X dX7_findNote_54 3 (by decide) ?_
          exact ih (i + 1) (by omega) (by rw [← hR, fndI, if_neg (by simp [isNote, *])])
        · refine g_aload_n X dX7_findNote_37 rfl 1 rfl rfl ?_
          refine g_iload X dX7_findNote_38 0 rfl rfl ?_
          refine g_iconst (v := (2 : Int32)) X dX7_findNote_40 (by decide) rfl ?_
          refine g_callVRs (n := 2) (As := [_, _]) (rest := []) X (c_X7_ofNote l D _ _ _ _ _ _ _ _ _ _ _ _ _ _ _ _ _  (i) (2) (by omega) (by omega)) gX7_findNote_X7_ofNote rfl (by decide +kernel) ⟨Nat.le_of_ble_eq_true rfl, Nat.le_of_ble_eq_true rfl⟩ rfl rfl  rfl rfl (Nat.le_of_ble_eq_true rfl) dX7_findNote_41 ⟨Nat.le_of_ble_eq_true rfl, Nat.le_of_ble_eq_true rfl⟩ rfl (fun v hv => ?_)
          obtain rfl := hv
          refine g_st (st' := [_]) rfl ?_
          refine g_iload_n X dX7_findNote_44 rfl 4 rfl rfl ?_
          refine g_icmp_ne X dX7_findNote_45 51 (by decide) rfl (fun h45 => ?_) (fun h45 => ?_)
          · refine g_iinc (v := nI (i + 1)) X [(4, _), (0, _), (1, _), (2, _), (3, _)] dX7_findNote_51 0 rfl (nI_add (i) 1) (by decide) rfl rfl ?_
            refine g_goto X dX7_findNote_54 3 (by decide) ?_
            exact ih (i + 1) (by omega) (by rw [← hR, fndI, if_neg (by simp [isNote, *])])
          · refine g_iload X dX7_findNote_48 0 rfl rfl ?_
            refine g_retR X hr (by first | rfl | exact b2i_nar _) dX7_findNote_50 ?_
            exact congrArg (fun x => some (Value.int x)) (by rw [← hR, fndI, if_pos (by simp [isNote, *])])
  exact L3 nn 0 (by omega) rfl

set_option maxHeartbeats 4000000 in
set_option maxRecDepth 100000 in
theorem c_X7_wipeAll (l : Launch) (D : DT) (a : Nat → Nat) (fa fp fs fv fg fw fd ft fn : Nat → Int32) (p1 pm wk dm sp iw od : Int32) : MW l yX7_wipeAll wsX7_wipeAll 0 0 0 0 D [.ref (a 0)] (wM D a fa fp fs fv fg fw fd ft fn p1 pm wk dm sp iw od) (fun v w => v = some (.int (fa 90)) ∧ w = (wM D a (wpF fa) fp fs fv fg fw fd ft fn p1 pm wk dm sp iw od)) := by
  refine MW.of (cc := cX7_wipeAll) (maxL := 2) (ret := (some .int)) (lv := [(0, .ref (a 0))]) (by decide +kernel) rfl (Nat.le_of_ble_eq_true rfl) rfl ?_
  intro p e s m below meth c A hAe hAg X hr hmn
  have hinX70 : ∀ w ∈ wsX70, w ∈ wsX7_wipeAll := fun w h => List.mem_cons_of_mem _ (List.mem_append_right _ h)
  have hl7 := List.mem_of_getElem? (l := wsX7_wipeAll) (i := 1) rfl
  refine g_aload_n X dX7_wipeAll_0 rfl 0 rfl rfl ?_
  refine gM_get_at X dX7_wipeAll_1 hinX70 hl7 rfl ?_
  refine g_bipush (v := (90 : Int32)) X dX7_wipeAll_4 (by decide) rfl ?_
  refine gM_ld_at X dX7_wipeAll_6 (k := 90) rfl (by decide) rfl ?_
  refine g_istore_n X [(1, _), (0, _)] dX7_wipeAll_7 rfl (by decide) rfl rfl ?_
  refine g_aload_n X dX7_wipeAll_8 rfl 1 rfl rfl ?_
  refine gM_get_at X dX7_wipeAll_9 hinX70 hl7 rfl ?_
  refine g_bipush (v := (90 : Int32)) X dX7_wipeAll_12 (by decide) rfl ?_
  refine g_iconst (v := (0 : Int32)) X dX7_wipeAll_14 (by decide) rfl ?_
  refine gM_st_at X rfl dX7_wipeAll_15 (k := 90) rfl (by decide) rfl ?_
  refine g_aload_n X dX7_wipeAll_16 rfl 1 rfl rfl ?_
  refine gM_get_at X dX7_wipeAll_17 hinX70 hl7 rfl ?_
  refine g_bipush (v := (81 : Int32)) X dX7_wipeAll_20 (by decide) rfl ?_
  refine g_dup2 X dX7_wipeAll_22 rfl rfl rfl ?_
  refine gM_ld_at X dX7_wipeAll_23 (k := 81) rfl (by decide) rfl ?_
  refine g_topi (up_n fa 0 (by omega)) ?_
  refine g_iload_n X dX7_wipeAll_24 rfl 0 rfl rfl ?_
  refine g_iadd X dX7_wipeAll_25 rfl ?_
  refine gM_st_at X rfl dX7_wipeAll_26 (k := 81) rfl (by decide) rfl ?_
  refine g_iload_n X dX7_wipeAll_27 rfl 0 rfl rfl ?_
  refine g_retW X hr (by first | rfl | exact b2i_nar _) dX7_wipeAll_28 hAe ?_
  exact ⟨rfl, rfl⟩
