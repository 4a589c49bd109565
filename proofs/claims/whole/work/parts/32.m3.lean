set_option maxHeartbeats 4000000 in
set_option maxRecDepth 100000 in
theorem c_X7_dropOver (l : Launch) (D : DT) (a : Nat → Nat) (fa fp fs fv fg fw fd ft fn : Nat → Int32) (p1 pm wk dm sp iw od : Int32) (nn b : Nat) (hnn : fa 90 = nI nn) (h9 : nn ≤ 9) (hb : fa 0 = nI b) (hb8 : b ≤ 8) : MW l yX7_dropOver wsX7_dropOver 1 22 0 0 D [.ref (a 0)] (wM D a fa fp fs fv fg fw fd ft fn p1 pm wk dm sp iw od) (fun v w => v = none ∧ w = (wM D a (drI nn fa nn b) fp fs fv fg fw fd ft fn p1 pm wk dm sp iw od)) := by
  refine MW.of (cc := cX7_dropOver) (maxL := 1) (ret := none) (lv := [(0, .ref (a 0))]) (by decide +kernel) rfl (Nat.le_of_ble_eq_true rfl) rfl ?_
  intro p e s m below meth c A hAe hAg X hr hmn
  have hinX70 : ∀ w ∈ wsX70, w ∈ wsX7_dropOver := fun w h => List.mem_cons_of_mem _ (List.mem_append_right _ h)
  have hl7 := List.mem_of_getElem? (l := wsX7_dropOver) (i := 1) rfl
  have L0 : ∀ (n : Nat) (f1 : Nat → Int32) (m1 : Nat) (hn : m1 ≤ n) (hm9 : m1 ≤ 9) (hn1 : f1 90 = nI m1) (hb1 : f1 0 = nI b) (hR : drI n f1 m1 b = drI nn fa nn b), GG p l e (wRoom 1 22 0 0) s m ([.ref (a 0)] : List Value).toArray below meth c D A 1 false 0 0 (MQ below (wrQ D (wM D a fa fp fs fv fg fw fd ft fn p1 pm wk dm sp iw od) s.heap.size (fun v w => v = none ∧ w = (wM D a (drI nn fa nn b) fp fs fv fg fw fd ft fn p1 pm wk dm sp iw od))) ([.ref (a 0)] : List Value).toArray s 0 0 (va_A (wM D a fa fp fs fv fg fw fd ft fn p1 pm wk dm sp iw od) s.heap.size)) (wM D a f1 fp fs fv fg fw fd ft fn p1 pm wk dm sp iw od) 0 [(0, .ref (a 0))] [] := by
    intro n
    induction n using Nat.strongRecOn with
    | _ n ih =>
    intro f1 m1 hn hm9 hn1 hb1 hR
    refine g_aload_n X dX7_dropOver_0 rfl 0 rfl rfl ?_
    refine gM_get_at X dX7_dropOver_1 hinX70 hl7 rfl ?_
    refine g_bipush (v := (90 : Int32)) X dX7_dropOver_4 (by decide) rfl ?_
    refine gM_ld_at X dX7_dropOver_6 (k := 90) rfl (by decide) rfl ?_
    refine g_topi (hn1) ?_
    refine g_aload_n X dX7_dropOver_7 rfl 0 rfl rfl ?_
    refine gM_get_at X dX7_dropOver_8 hinX70 hl7 rfl ?_
    refine g_iconst (v := (0 : Int32)) X dX7_dropOver_11 (by decide) rfl ?_
    refine gM_ld_at X dX7_dropOver_12 (k := 0) rfl (by decide) rfl ?_
    refine g_topi (hb1) ?_
    refine g_icmp_le X dX7_dropOver_13 35 (by decide) rfl (fun h13 => ?_) (fun h13 => ?_)
    · have i13 := nj_le (a := m1) (b := b) (by omega) (by omega) h13
      refine g_vretW X hr dX7_dropOver_35 hAe ?_
      refine ⟨rfl, ?_⟩
      rw [← hR]
      cases n with
      | zero => rfl
      | succ n => rw [drI, if_neg (by omega)]
    · have i13 := nj_nle (a := m1) (b := b) (by omega) (by omega) h13
      refine g_aload_n X dX7_dropOver_16 rfl 0 rfl rfl ?_
      refine g_iconst (v := (0 : Int32)) X dX7_dropOver_17 (by decide) rfl ?_
      refine g_callVWs (n := 1) (As := [_]) (rest := []) X hAg rfl (c_X7_takeNote l D _ _ _ _ _ _ _ _ _ _ _ _ _ _ _ _ _  m1 0 hn1 (by omega) (by omega)) gX7_dropOver_X7_takeNote rfl (by decide +kernel) ⟨Nat.le_of_ble_eq_true rfl, Nat.le_of_ble_eq_true rfl⟩ rfl rfl  rfl rfl (Nat.le_of_ble_eq_true rfl) dX7_dropOver_18 ⟨Nat.le_of_ble_eq_true rfl, Nat.le_of_ble_eq_true rfl⟩ rfl (fun v w hv => ?_)
      obtain ⟨rfl, rfl⟩ := hv
      refine ⟨rfl, ?_⟩
      refine g_st (st' := []) rfl ?_
      refine g_aload_n X dX7_dropOver_21 rfl 0 rfl rfl ?_
      refine gM_get_at X dX7_dropOver_22 hinX70 hl7 rfl ?_
      refine g_bipush (v := (82 : Int32)) X dX7_dropOver_25 (by decide) rfl ?_
      refine g_dup2 X dX7_dropOver_27 rfl rfl rfl ?_
      refine gM_ld_at X dX7_dropOver_28 (k := 82) rfl (by decide) rfl ?_
      refine g_topi (tkF_lo (by omega)) ?_
      refine g_iconst (v := (1 : Int32)) X dX7_dropOver_29 (by decide) rfl ?_
      refine g_iadd X dX7_dropOver_30 rfl ?_
      refine gM_st_at X rfl dX7_dropOver_31 (k := 82) rfl (by decide) rfl ?_
      refine g_goto X dX7_dropOver_32 0 (by decide) ?_
      obtain ⟨n1, rfl⟩ : ∃ n1, n = n1 + 1 := ⟨n - 1, by omega⟩
      rw [drI, if_pos i13] at hR
      exact ih n1 (by omega) _ (m1 - 1) (by omega) (by omega) (by rw [up_n _ _ (by omega)]; exact tkF_90) (by rw [up_n _ _ (by omega), tkF_lo (by omega)]; exact hb1) hR
  exact L0 nn fa nn (by omega) h9 hnn hb rfl

set_option maxHeartbeats 4000000 in
set_option maxRecDepth 100000 in
theorem c_X7_layGood (l : Launch) (D : DT) (a : Nat → Nat) (fa fp fs fv fg fw fd ft fn : Nat → Int32) (p1 pm wk dm sp iw od : Int32) (mk : Nat) (hmk : fa 76 = nI mk) (h40 : mk ≤ 40) (hst : ∀ s, s < mk → stOK fa s) : MW l yX7_layGood wsX7_layGood 3 67 0 0 D [.ref (a 0)] (wM D a fa fp fs fv fg fw fd ft fn p1 pm wk dm sp iw od) (fun v w => v = none ∧ w = (wM D a fa fp fs fv (fgI fa fg mk) (cpI (fgI fa fg mk) fw mk) fd ft fn p1 pm wk dm sp iw od)) := by
  refine MW.of (cc := cX7_layGood) (maxL := 2) (ret := none) (lv := [(0, .ref (a 0))]) (by decide +kernel) rfl (Nat.le_of_ble_eq_true rfl) rfl ?_
  intro p e s m below meth c A hAe hAg X hr hmn
  have hinX70 : ∀ w ∈ wsX70, w ∈ wsX7_layGood := fun w h => List.mem_cons_of_mem _ (List.mem_append_right _ h)
  have hl7 := List.mem_of_getElem? (l := wsX7_layGood) (i := 1) rfl
  have hl26 := List.mem_of_getElem? (l := wsX7_layGood) (i := 2) rfl
  have hl23 := List.mem_of_getElem? (l := wsX7_layGood) (i := 3) rfl
  refine g_aload_n X dX7_layGood_0 rfl 0 rfl rfl ?_
  refine g_callVWs (n := 0) (As := []) (rest := []) X hAg rfl (c_X7_findGood l D _ _ _ _ _ _ _ _ _ _ _ _ _ _ _ _ _  mk hmk h40 hst) gX7_layGood_X7_findGood rfl (by decide +kernel) ⟨Nat.le_of_ble_eq_true rfl, Nat.le_of_ble_eq_true rfl⟩ rfl rfl  rfl rfl (Nat.le_of_ble_eq_true rfl) dX7_layGood_1 ⟨Nat.le_of_ble_eq_true rfl, Nat.le_of_ble_eq_true rfl⟩ rfl (fun v w hv => ?_)
  obtain ⟨rfl, rfl⟩ := hv
  refine ⟨rfl, ?_⟩
  refine g_st (st' := []) rfl ?_
  refine g_iconst (v := (0 : Int32)) X dX7_layGood_4 (by decide) rfl ?_
  refine g_istore_n X [(1, _), (0, _)] dX7_layGood_5 rfl (by decide) rfl rfl ?_
  have L6 : ∀ (n : Nat) (i : Nat) (hi : i ≤ mk) (hn : mk - i = n), GG p l e (wRoom 3 67 0 0) s m ([.ref (a 0)] : List Value).toArray below meth c D A 2 false 0 0 (MQ below (wrQ D (wM D a fa fp fs fv fg fw fd ft fn p1 pm wk dm sp iw od) s.heap.size (fun v w => v = none ∧ w = (wM D a fa fp fs fv (fgI fa fg mk) (cpI (fgI fa fg mk) fw mk) fd ft fn p1 pm wk dm sp iw od))) ([.ref (a 0)] : List Value).toArray s 0 0 (va_A (wM D a fa fp fs fv fg fw fd ft fn p1 pm wk dm sp iw od) s.heap.size)) (wM D a fa fp fs fv (fgI fa fg mk) (cpI (fgI fa fg mk) fw i) fd ft fn p1 pm wk dm sp iw od) 6 [(1, .int (nI i)), (0, .ref (a 0))] [] := by
    intro n
    induction n using Nat.strongRecOn with
    | _ n ih =>
    intro i hi hn
    refine g_iload_n X dX7_layGood_6 rfl 0 rfl rfl ?_
    refine g_aload_n X dX7_layGood_7 rfl 1 rfl rfl ?_
    refine gM_get_at X dX7_layGood_8 hinX70 hl7 rfl ?_
    refine g_bipush (v := (76 : Int32)) X dX7_layGood_11 (by decide) rfl ?_
    refine gM_ld_at X dX7_layGood_13 (k := 76) rfl (by decide) rfl ?_
    refine g_topi (hmk) ?_
    refine g_icmp_ge X dX7_layGood_14 35 (by decide) rfl (fun h14 => ?_) (fun h14 => ?_)
    · have i14 := nj_le (a := mk) (b := i) (by omega) (by omega) h14
      refine g_vretW X hr dX7_layGood_35 hAe ?_
      have hii : i = mk := by omega
      subst hii
      exact ⟨rfl, rfl⟩
    · have i14 := nj_nle (a := mk) (b := i) (by omega) (by omega) h14
      refine g_aload_n X dX7_layGood_17 rfl 1 rfl rfl ?_
      refine gM_get_wasGood X dX7_layGood_18 hinX70 hl26 rfl ?_
      refine g_iload_n X dX7_layGood_21 rfl 0 rfl rfl ?_
      refine g_aload_n X dX7_layGood_22 rfl 1 rfl rfl ?_
      refine gM_get_good X dX7_layGood_23 hinX70 hl23 rfl ?_
      refine g_iload_n X dX7_layGood_26 rfl 0 rfl rfl ?_
      refine gM_ld_good X dX7_layGood_27 (by first | rfl | assumption) (by omega) rfl ?_
      refine gM_st_wasGood X rfl dX7_layGood_28 (by first | rfl | assumption) (by omega) (by rw [fgI_lt (by omega)]; exact b2i_vnar _) rfl ?_
      refine g_iinc (v := nI (i + 1)) X [(1, _), (0, _)] dX7_layGood_29 0 rfl (nI_add (i) 1) (by decide) rfl rfl ?_
      refine g_goto X dX7_layGood_32 6 (by decide) ?_
      refine g_ws (wM_fw cpI_s) ?_
      exact ih (mk - (i + 1)) (by omega) (i + 1) (by omega) rfl
  refine g_ws (wM_fw (cpI_0 (fgI fa fg mk) fw).symm) ?_
  exact L6 mk 0 (by omega) (by omega)

set_option maxHeartbeats 4000000 in
set_option maxRecDepth 100000 in
theorem c_X7_goes (l : Launch) (D : DT) (a : Nat → Nat) (fa fp fs fv fg fw fd ft fn : Nat → Int32) (p1 pm wk dm sp iw od : Int32) (mk : Nat) (h40 : mk ≤ 40) (hdo : ∀ k, k < 60 → fa (16 + k) = -6 ∨ ∃ s : Nat, s < mk ∧ fa (16 + k) = nI s) (q : Nat) (hq : q < 9) (hno : noOK fa q) (x : Int32) : MR l yX7_goes wsX7_goes 1 22 D [.ref (a 0), .int (nI q), .int x] (wM D a fa fp fs fv fg fw fd ft fn p1 pm wk dm sp iw od) (fun v => v = some (.int (b2i (goesM fa fg fw x q)))) := by
  refine MR.of (cc := cX7_goes) (maxL := 4) (ret := (some .boolean)) (lv := [(0, .ref (a 0)), (1, .int (nI q)), (2, .int x)]) (by decide +kernel) rfl (Nat.le_of_ble_eq_true rfl) rfl ?_
  intro p e s m below meth c A X hr hmn
  have hinX70 : ∀ w ∈ wsX70, w ∈ wsX7_goes := fun w h => List.mem_cons_of_mem _ (List.mem_append_right _ h)
  have hl7 := List.mem_of_getElem? (l := wsX7_goes) (i := 1) rfl
  have hl26 := List.mem_of_getElem? (l := wsX7_goes) (i := 2) rfl
  have hl23 := List.mem_of_getElem? (l := wsX7_goes) (i := 3) rfl
  obtain ⟨⟨g, hg, eg⟩, ⟨d, hd, ed⟩⟩ := hno
  have hcg : (noteM fa q 0).toNatClampNeg = g := by rw [eg]; exact nI_clamp (by omega)
  have hcd : (noteM fa q 1).toNatClampNeg = d := by rw [ed]; exact nI_clamp (by omega)
  refine g_aload_n X dX7_goes_0 rfl 0 rfl rfl ?_
  refine g_aload_n X dX7_goes_1 rfl 0 rfl rfl ?_
  refine g_iload_n X dX7_goes_2 rfl 1 rfl rfl ?_
  refine g_iconst (v := (0 : Int32)) X dX7_goes_3 (by decide) rfl ?_
  refine g_callVRs (n := 2) (As := [_, _]) (rest := [_]) X (c_X7_ofNote l D _ _ _ _ _ _ _ _ _ _ _ _ _ _ _ _ _  (q) (0) (by omega) (by omega)) gX7_goes_X7_ofNote rfl (by decide +kernel) ⟨Nat.le_of_ble_eq_true rfl, Nat.le_of_ble_eq_true rfl⟩ rfl rfl  rfl rfl (Nat.le_of_ble_eq_true rfl) dX7_goes_4 ⟨Nat.le_of_ble_eq_true rfl, Nat.le_of_ble_eq_true rfl⟩ rfl (fun v hv => ?_)
  obtain rfl := hv
  refine g_st (st' := [_, _]) rfl ?_
  refine g_topi (eg) ?_
  refine g_aload_n X dX7_goes_7 rfl 0 rfl rfl ?_
  refine g_iload_n X dX7_goes_8 rfl 1 rfl rfl ?_
  refine g_iconst (v := (1 : Int32)) X dX7_goes_9 (by decide) rfl ?_
  refine g_callVRs (n := 2) (As := [_, _]) (rest := [_, _]) X (c_X7_ofNote l D _ _ _ _ _ _ _ _ _ _ _ _ _ _ _ _ _  (q) (1) (by omega) (by omega)) gX7_goes_X7_ofNote rfl (by decide +kernel) ⟨Nat.le_of_ble_eq_true rfl, Nat.le_of_ble_eq_true rfl⟩ rfl rfl  rfl rfl (Nat.le_of_ble_eq_true rfl) dX7_goes_10 ⟨Nat.le_of_ble_eq_true rfl, Nat.le_of_ble_eq_true rfl⟩ rfl (fun v hv => ?_)
  obtain rfl := hv
  refine g_st (st' := [_, _, _]) rfl ?_
  refine g_topi (ed) ?_
  refine g_callVRs (n := 2) (As := [_, _]) (rest := []) X (c_X7_leadsBy l D _ _ _ _ _ _ _ _ _ _ _ _ _ _ _ _ _  (g) (d) (by omega) (by omega)) gX7_goes_X7_leadsBy rfl (by decide +kernel) ⟨Nat.le_of_ble_eq_true rfl, Nat.le_of_ble_eq_true rfl⟩ rfl rfl  rfl rfl (Nat.le_of_ble_eq_true rfl) dX7_goes_13 ⟨Nat.le_of_ble_eq_true rfl, Nat.le_of_ble_eq_true rfl⟩ rfl (fun v hv => ?_)
  obtain rfl := hv
  refine g_st (st' := [_]) rfl ?_
  clear eg ed
  refine g_istore_n X [(3, _), (0, _), (1, _), (2, _)] dX7_goes_16 rfl (by decide) rfl rfl ?_
  refine g_aload_n X dX7_goes_17 rfl 1 rfl rfl ?_
  refine gM_get_at X dX7_goes_18 hinX70 hl7 rfl ?_
  refine g_iconst (v := (2 : Int32)) X dX7_goes_21 (by decide) rfl ?_
  refine gM_ld_at X dX7_goes_22 (k := 2) rfl (by decide) rfl ?_
  refine g_if_eq X dX7_goes_23 71 (by decide) rfl (fun h23 => ?_) (fun h23 => ?_)
  · refine g_iconst (v := (1 : Int32)) X dX7_goes_71 (by decide) rfl ?_
    refine g_goto X dX7_goes_72 76 (by decide) ?_
    refine g_retR X hr (by first | rfl | exact b2i_nar _) dX7_goes_76 ?_
    first | exact ret_1 (by simp [goesM, ledBy, *]) | exact ret_0 (by simp [goesM, ledBy, *])
  · refine g_aload_n X dX7_goes_26 rfl 1 rfl rfl ?_
    refine gM_get_at X dX7_goes_27 hinX70 hl7 rfl ?_
    refine g_iconst (v := (2 : Int32)) X dX7_goes_30 (by decide) rfl ?_
    refine gM_ld_at X dX7_goes_31 (k := 2) rfl (by decide) rfl ?_
    refine g_iconst (v := (1 : Int32)) X dX7_goes_32 (by decide) rfl ?_
    refine g_icmp_ne X dX7_goes_33 49 (by decide) rfl (fun h33 => ?_) (fun h33 => ?_)
    · refine g_iload_n X dX7_goes_49 rfl 0 rfl rfl ?_
      refine g_if_lt X dX7_goes_50 75 (by decide) rfl (fun h50 => ?_) (fun h50 => ?_)
      · have i50 : _ < (0 : Int) := ic_lt h50
        refine g_iconst (v := (0 : Int32)) X dX7_goes_75 (by decide) rfl ?_
        refine g_retR X hr (by first | rfl | exact b2i_nar _) dX7_goes_76 ?_
        first | exact ret_1 (by simp [goesM, ledBy, *]) | exact ret_0 (by simp [goesM, ledBy, *])
      · have i50 : (0 : Int) ≤ _ := ic_nlt h50
        obtain ⟨t, ht, et⟩ : ∃ t : Nat, t < mk ∧ ledM fa g d = nI t := (hdo (10 * g + d) (by omega)).resolve_left (fun e => by have e2 : ledM fa g d = -6 := e
                                                                                                                                    rw [e2] at h50; exact absurd h50 (by decide))
        have hct : (ledM fa g d).toNatClampNeg = t := by rw [et]; exact nI_clamp (by omega)
        have hnt : ¬ ledM fa g d < 0 := by rw [et]; exact nI_pos (by omega)
        rw [et]
        clear et
        refine g_aload_n X dX7_goes_53 rfl 1 rfl rfl ?_
        refine gM_get_wasGood X dX7_goes_54 hinX70 hl26 rfl ?_
        refine g_iload_n X dX7_goes_57 rfl 0 rfl rfl ?_
        refine gM_ld_wasGood X dX7_goes_58 (by first | rfl | assumption) (by omega) rfl ?_
        refine g_if_eq X dX7_goes_59 75 (by decide) rfl (fun h59 => ?_) (fun h59 => ?_)
        · refine g_iconst (v := (0 : Int32)) X dX7_goes_75 (by decide) rfl ?_
          refine g_retR X hr (by first | rfl | exact b2i_nar _) dX7_goes_76 ?_
          first | exact ret_1 (by simp [goesM, ledBy, *]) | exact ret_0 (by simp [goesM, ledBy, *])
        · refine g_aload_n X dX7_goes_62 rfl 1 rfl rfl ?_
          refine gM_get_good X dX7_goes_63 hinX70 hl23 rfl ?_
          refine g_iload_n X dX7_goes_66 rfl 0 rfl rfl ?_
          refine gM_ld_good X dX7_goes_67 (by first | rfl | assumption) (by omega) rfl ?_
          refine g_if_ne X dX7_goes_68 75 (by decide) rfl (fun h68 => ?_) (fun h68 => ?_)
          · refine g_iconst (v := (0 : Int32)) X dX7_goes_75 (by decide) rfl ?_
            refine g_retR X hr (by first | rfl | exact b2i_nar _) dX7_goes_76 ?_
            first | exact ret_1 (by simp [goesM, ledBy, *]) | exact ret_0 (by simp [goesM, ledBy, *])
          · refine g_iconst (v := (1 : Int32)) X dX7_goes_71 (by decide) rfl ?_
            refine g_goto X dX7_goes_72 76 (by decide) ?_
            refine g_retR X hr (by first | rfl | exact b2i_nar _) dX7_goes_76 ?_
            first | exact ret_1 (by simp [goesM, ledBy, *]) | exact ret_0 (by simp [goesM, ledBy, *])
    · refine g_aload_n X dX7_goes_36 rfl 1 rfl rfl ?_
      refine g_iload_n X dX7_goes_37 rfl 2 rfl rfl ?_
      refine g_iconst (v := (3 : Int32)) X dX7_goes_38 (by decide) rfl ?_
      refine g_callVRs (n := 2) (As := [_, _]) (rest := []) X (c_X7_ofNote l D _ _ _ _ _ _ _ _ _ _ _ _ _ _ _ _ _  (q) (3) (by omega) (by omega)) gX7_goes_X7_ofNote rfl (by decide +kernel) ⟨Nat.le_of_ble_eq_true rfl, Nat.le_of_ble_eq_true rfl⟩ rfl rfl  rfl rfl (Nat.le_of_ble_eq_true rfl) dX7_goes_39 ⟨Nat.le_of_ble_eq_true rfl, Nat.le_of_ble_eq_true rfl⟩ rfl (fun v hv => ?_)
      obtain rfl := hv
      refine g_st (st' := [_]) rfl ?_
      refine g_iload_n X dX7_goes_42 rfl 3 rfl rfl ?_
      refine g_icmp_ne X dX7_goes_43 75 (by decide) rfl (fun h43 => ?_) (fun h43 => ?_)
      · refine g_iconst (v := (0 : Int32)) X dX7_goes_75 (by decide) rfl ?_
        refine g_retR X hr (by first | rfl | exact b2i_nar _) dX7_goes_76 ?_
        first | exact ret_1 (by simp [goesM, ledBy, *]) | exact ret_0 (by simp [goesM, ledBy, *])
      · refine g_goto X dX7_goes_46 71 (by decide) ?_
        refine g_iconst (v := (1 : Int32)) X dX7_goes_71 (by decide) rfl ?_
        refine g_goto X dX7_goes_72 76 (by decide) ?_
        refine g_retR X hr (by first | rfl | exact b2i_nar _) dX7_goes_76 ?_
        first | exact ret_1 (by simp [goesM, ledBy, *]) | exact ret_0 (by simp [goesM, ledBy, *])
