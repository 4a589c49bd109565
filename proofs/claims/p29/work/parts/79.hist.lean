theorem optHH (o : Option HH) : o = none ∨ ∃ (b : Nat → Nat) (g : Nat → Int32) (nb : Nat → Nat → Int32), o = some (b, g, nb) := by
  cases o with
  | none => exact Or.inl rfl
  | some h => exact Or.inr ⟨h.1, h.2.1, h.2.2, rfl⟩

set_option maxHeartbeats 4000000 in
set_option maxRecDepth 100000 in
theorem c_X1_remember (l : Launch) (D : DT) (a : Nat → Nat) (f : Nat → Int32) (na : Nat → Nat → Int32) (w td vl : Nat → Int32) (L pt fl : Nat) (kd : Int32) (kp : Nat) (pq ps : Nat → Option HH) (hF : FB f) (hk6 : kp ≤ 6) : MW l yX1_remember wsX1_remember 3 72 16 340 D [.ref (a 23), .ref (a 0)] (wB D a f na w td vl L pt fl kd kp (fqa pq) (fqa ps) (tlW D pq ps)) (fun v w9 => v = none ∧ ∃ b : Nat → Nat, (pq kp = none ∨ ∃ h : HH, pq kp = some h ∧ h.1 = b) ∧ w9 = (wB D a f na w td vl L pt fl kd kp (fqa (up pq kp (some (b, f, na)))) (fqa ps) (tlW D (up pq kp (some (b, f, na))) ps))) := by
  refine MW.of (cc := cX1_remember) (maxL := 2) (ret := none) (lv := [(0, .ref (a 23)), (1, .ref (a 0))]) (by decide +kernel) rfl (Nat.le_of_ble_eq_true rfl) rfl ?_
  intro p e s m below meth c A hAe hAg X hr hmn
  have hinX10 : ∀ w ∈ wsX10, w ∈ wsX1_remember := fun w h => List.mem_cons_of_mem _ (List.mem_append_left _ (List.mem_append_left _ (List.mem_append_left _ (List.mem_append_right _ h))))
  have hinX20 : ∀ w ∈ wsX20, w ∈ wsX1_remember := fun w h => List.mem_cons_of_mem _ (List.mem_append_left _ (List.mem_append_left _ (List.mem_append_right _ h)))
  have hinX40 : ∀ w ∈ wsX40, w ∈ wsX1_remember := fun w h => List.mem_cons_of_mem _ (List.mem_append_left _ (List.mem_append_right _ h))
  have hinX00 : ∀ w ∈ wsX00, w ∈ wsX1_remember := fun w h => List.mem_cons_of_mem _ (List.mem_append_right _ h)
  have hl11 := List.mem_of_getElem? (l := wsX1_remember) (i := 1) rfl
  have hl17 := List.mem_of_getElem? (l := wsX1_remember) (i := 2) rfl
  refine g_aload_n X dX1_remember_0 rfl 0 rfl rfl ?_
  refine gB_get_History_past X dX1_remember_1 hinX10 hl11 rfl ?_
  refine g_aload_n X dX1_remember_4 rfl 0 rfl rfl ?_
  refine gB_get_History_kept X dX1_remember_5 hinX10 hl17 rfl ?_
  refine gB_ld_past (k := kp) X dX1_remember_8 rfl (by omega) rfl ?_
  rcases optHH (pq kp) with hpq | ⟨b, g, nb, hpq⟩
  · refine g_st (st' := [.null]) (by rw [fqa_none hpq]; rfl) ?_
    refine g_ifnonnullN X dX1_remember_9 rfl ?_
    refine g_aload_n X dX1_remember_12 rfl 0 rfl rfl ?_
    refine gB_get_History_past X dX1_remember_13 hinX10 hl11 rfl ?_
    refine g_aload_n X dX1_remember_16 rfl 0 rfl rfl ?_
    refine gB_get_History_kept X dX1_remember_17 hinX10 hl17 rfl ?_
    refine g_new (ci := 2) (fs := [.null, .null, .null, .null, .null, .null, .int 0, .int 0, .int 0, .int 0]) X tyX2 hAg rfl dX1_remember_20 hinX20 tyX2_ok (List.mem_of_getElem? (l := wsX1_remember) (i := 3) rfl) (List.mem_of_getElem? (l := wsX1_remember) (i := 4) rfl) (List.mem_of_getElem? (l := wsX1_remember) (i := 5) rfl) rfl (by decide) ⟨Nat.le_of_ble_eq_true rfl, Nat.le_of_ble_eq_true rfl⟩ rfl (fun qn => ?_)
    refine g_perm (ws' := (qn, .inr (2, [.null, .null, .null, .null, .null, .null, .int 0, .int 0, .int 0, .int 0])) :: (wB D a f na w td vl L pt fl kd kp (fqa pq) (fqa ps) (tlW D pq ps))) (perm_last _ _) ?_
    refine g_dup X dX1_remember_23 rfl rfl ?_
    refine g_callIA (n := 0) (As := []) (rest := [_, _, _]) X hAg rfl (c_X2_init l D qn) gX1_remember_X2_init (List.mem_of_getElem? (l := wsX1_remember) (i := 5) rfl) (List.mem_of_getElem? (l := wsX1_remember) (i := 6) rfl) (List.mem_of_getElem? (l := wsX1_remember) (i := 7) rfl) rfl rfl (by decide +kernel) ⟨Nat.le_of_ble_eq_true rfl, Nat.le_of_ble_eq_true rfl⟩ [0] rfl (by decide) rfl rfl (Nat.le_of_ble_eq_true rfl) dX1_remember_24 ⟨Nat.le_of_ble_eq_true rfl, Nat.le_of_ble_eq_true rfl⟩ rfl (fun v w9 hv => ?_)
    obtain ⟨rfl, hb, rfl, rfl⟩ := hv
    refine ⟨(wH D hb f0S na0S).take 1, (wH D hb f0S na0S).drop 1, rfl, rfl, ?_⟩
    refine g_st (st' := [_, _, _]) rfl ?_
    refine g_ws (ws' := ((hb 0, .inr (2, [.ref (hb 1), .ref (hb 2), .ref (hb 3), .ref (hb 4), .ref (hb 5), .ref (hb 13), .int (f0S 77), .int (f0S 78), .int (f0S 79), .int (f0S 80)])) :: (wB D a f na w td vl L pt fl kd kp (fqa pq) (fqa ps) (tlW D pq ps))) ++ (wH D hb f0S na0S).drop 1) rfl ?_
    refine g_perm wB_new ?_
    refine g_ws (ws' := (wB D a f na w td vl L pt fl kd kp (fqa pq) (fqa ps) (wH D hb f0S na0S ++ tlW D pq ps))) rfl ?_
    refine gB_st_past (k := kp) (v := hb 0) X rfl dX1_remember_27 rfl (by omega) ⟨24, _, rfl⟩ rfl ?_
    refine g_ws (wB_fq (fqa_up pq kp (hb, f, na)).symm) ?_
    refine g_ws (wB_tl (congrArg (fun z => wH D hb f0S na0S ++ z) (tl_none hpq).symm)) ?_
    have L28 : ∀ (b : Nat → Nat) (g : Nat → Int32) (nb : Nat → Nat → Int32) (_ : pq kp = none ∨ ∃ h : HH, pq kp = some h ∧ h.1 = b), GG p l e (wRoom 3 72 16 340) s m ([.ref (a 23), .ref (a 0)] : List Value).toArray below meth c D A 2 false 16 340 (MQ below (wrQ D (wB D a f na w td vl L pt fl kd kp (fqa pq) (fqa ps) (tlW D pq ps)) s.heap.size (fun v w9 => v = none ∧ ∃ b : Nat → Nat, (pq kp = none ∨ ∃ h : HH, pq kp = some h ∧ h.1 = b) ∧ w9 = (wB D a f na w td vl L pt fl kd kp (fqa (up pq kp (some (b, f, na)))) (fqa ps) (tlW D (up pq kp (some (b, f, na))) ps)))) ([.ref (a 23), .ref (a 0)] : List Value).toArray s 16 340 (va_A (wB D a f na w td vl L pt fl kd kp (fqa pq) (fqa ps) (tlW D pq ps)) s.heap.size)) (wB D a f na w td vl L pt fl kd kp (fqa (up pq kp (some (b, f, na)))) (fqa ps) (wH D b g nb ++ tlW D (up pq kp none) ps)) 28 [(0, .ref (a 23)), (1, .ref (a 0))] [] := by
      intro b g nb hbb
      refine g_aload_n X dX1_remember_28 rfl 0 rfl rfl ?_
      refine gB_get_History_past X dX1_remember_29 hinX10 hl11 rfl ?_
      refine g_aload_n X dX1_remember_32 rfl 0 rfl rfl ?_
      refine gB_get_History_kept X dX1_remember_33 hinX10 hl17 rfl ?_
      refine gB_ld_past (k := kp) X dX1_remember_36 rfl (by omega) rfl ?_
      refine g_st (st' := [.ref (b 0)]) (by rw [fqa_some (up_s _ _ _)]; rfl) ?_
      refine g_aload_n X dX1_remember_37 rfl 1 rfl rfl ?_
      refine g_callVWq (n := 1) (As := [_]) (rest := []) X hAg rfl (c_X2_copyFrom l D a b f g na nb hF) gX1_remember_X2_copyFrom rfl (by decide +kernel) ⟨Nat.le_of_ble_eq_true rfl, Nat.le_of_ble_eq_true rfl⟩ 0 rfl rfl ([24, 25, 26, 27, 28, 29, 30, 31, 32, 33, 34, 35, 36, 37, 38, 39] ++ [0, 1, 2, 3, 4, 5, 6, 7, 8, 9, 10, 11, 12, 13, 14, 15]) rfl (by decide) rfl rfl (Nat.le_of_ble_eq_true rfl) dX1_remember_38 ⟨Nat.le_of_ble_eq_true rfl, Nat.le_of_ble_eq_true rfl⟩ rfl (fun v w9 hv => ?_)
      obtain ⟨rfl, rfl⟩ := hv
      refine ⟨rfl, ?_⟩
      refine g_ws wB_cp ?_
      refine g_st (st' := []) rfl ?_
      refine g_perm (wB_perm (D := D) (tl' := tlW D (up pq kp (some (b, f, na))) ps) (by
        have z := tl_q (D := D) (pq := up pq kp (some (b, f, na))) (ps := ps) (k := kp) (h := (b, f, na)) (by omega) (up_s _ _ _)
        rw [up_up] at z
        exact z.symm)) ?_
      refine g_vretW X hr dX1_remember_41 hAe ?_
      exact ⟨rfl, b, hbb, rfl⟩
    refine g_widen 16 340 (Nat.le_of_ble_eq_true rfl) (Nat.le_of_ble_eq_true rfl) ?_
    exact L28 hb f0S na0S (Or.inl hpq)
  · refine g_st (st' := [.ref (b 0)]) (by rw [fqa_some hpq]; rfl) ?_
    refine g_ifnonnull X dX1_remember_9 28 (by decide) ?_
    have L28 : ∀ (b : Nat → Nat) (g : Nat → Int32) (nb : Nat → Nat → Int32) (_ : pq kp = none ∨ ∃ h : HH, pq kp = some h ∧ h.1 = b), GG p l e (wRoom 3 72 16 340) s m ([.ref (a 23), .ref (a 0)] : List Value).toArray below meth c D A 2 false 16 340 (MQ below (wrQ D (wB D a f na w td vl L pt fl kd kp (fqa pq) (fqa ps) (tlW D pq ps)) s.heap.size (fun v w9 => v = none ∧ ∃ b : Nat → Nat, (pq kp = none ∨ ∃ h : HH, pq kp = some h ∧ h.1 = b) ∧ w9 = (wB D a f na w td vl L pt fl kd kp (fqa (up pq kp (some (b, f, na)))) (fqa ps) (tlW D (up pq kp (some (b, f, na))) ps)))) ([.ref (a 23), .ref (a 0)] : List Value).toArray s 16 340 (va_A (wB D a f na w td vl L pt fl kd kp (fqa pq) (fqa ps) (tlW D pq ps)) s.heap.size)) (wB D a f na w td vl L pt fl kd kp (fqa (up pq kp (some (b, f, na)))) (fqa ps) (wH D b g nb ++ tlW D (up pq kp none) ps)) 28 [(0, .ref (a 23)), (1, .ref (a 0))] [] := by
      intro b g nb hbb
      refine g_aload_n X dX1_remember_28 rfl 0 rfl rfl ?_
      refine gB_get_History_past X dX1_remember_29 hinX10 hl11 rfl ?_
      refine g_aload_n X dX1_remember_32 rfl 0 rfl rfl ?_
      refine gB_get_History_kept X dX1_remember_33 hinX10 hl17 rfl ?_
      refine gB_ld_past (k := kp) X dX1_remember_36 rfl (by omega) rfl ?_
      refine g_st (st' := [.ref (b 0)]) (by rw [fqa_some (up_s _ _ _)]; rfl) ?_
      refine g_aload_n X dX1_remember_37 rfl 1 rfl rfl ?_
      refine g_callVWq (n := 1) (As := [_]) (rest := []) X hAg rfl (c_X2_copyFrom l D a b f g na nb hF) gX1_remember_X2_copyFrom rfl (by decide +kernel) ⟨Nat.le_of_ble_eq_true rfl, Nat.le_of_ble_eq_true rfl⟩ 0 rfl rfl ([24, 25, 26, 27, 28, 29, 30, 31, 32, 33, 34, 35, 36, 37, 38, 39] ++ [0, 1, 2, 3, 4, 5, 6, 7, 8, 9, 10, 11, 12, 13, 14, 15]) rfl (by decide) rfl rfl (Nat.le_of_ble_eq_true rfl) dX1_remember_38 ⟨Nat.le_of_ble_eq_true rfl, Nat.le_of_ble_eq_true rfl⟩ rfl (fun v w9 hv => ?_)
      obtain ⟨rfl, rfl⟩ := hv
      refine ⟨rfl, ?_⟩
      refine g_ws wB_cp ?_
      refine g_st (st' := []) rfl ?_
      refine g_perm (wB_perm (D := D) (tl' := tlW D (up pq kp (some (b, f, na))) ps) (by
        have z := tl_q (D := D) (pq := up pq kp (some (b, f, na))) (ps := ps) (k := kp) (h := (b, f, na)) (by omega) (up_s _ _ _)
        rw [up_up] at z
        exact z.symm)) ?_
      refine g_vretW X hr dX1_remember_41 hAe ?_
      exact ⟨rfl, b, hbb, rfl⟩
    refine g_widen 16 340 (Nat.zero_le _) (Nat.zero_le _) ?_
    refine g_ws (wB_fq (fqa_same (h' := (b, f, na)) hpq rfl).symm) ?_
    refine g_perm (wB_perm (tl_q (by omega) hpq)) ?_
    exact L28 b g nb (Or.inr ⟨_, hpq, rfl⟩)

set_option maxHeartbeats 4000000 in
set_option maxRecDepth 100000 in
theorem c_X1_keepLast (l : Launch) (D : DT) (a : Nat → Nat) (f : Nat → Int32) (na : Nat → Nat → Int32) (w td vl : Nat → Int32) (L pt fl : Nat) (kd : Int32) (kp : Nat) (pq ps : Nat → Option HH) (hkp : kp ≤ 6) (hall : kp = 6 → ∀ k, k < 7 → ∃ h : HH, pq k = some h) : MW l yX1_keepLast wsX1_keepLast 0 0 0 0 D [.ref (a 23)] (wB D a f na w td vl L pt fl kd kp (fqa pq) (fqa ps) (tlW D pq ps)) (fun v w9 => v = none ∧ w9 = (wB D a f na w td vl L pt fl kd (kN kp) (fqa (kQ kp pq)) (fqa ps) (tlW D (kQ kp pq) ps))) := by
  refine MW.of (cc := cX1_keepLast) (maxL := 3) (ret := none) (lv := [(0, .ref (a 23))]) (by decide +kernel) rfl (Nat.le_of_ble_eq_true rfl) rfl ?_
  intro p e s m below meth c A hAe hAg X hr hmn
  have hinX10 : ∀ w ∈ wsX10, w ∈ wsX1_keepLast := fun w h => List.mem_cons_of_mem _ (List.mem_append_right _ h)
  have hl17 := List.mem_of_getElem? (l := wsX1_keepLast) (i := 1) rfl
  have hl11 := List.mem_of_getElem? (l := wsX1_keepLast) (i := 2) rfl
  refine g_aload_n X dX1_keepLast_0 rfl 0 rfl rfl ?_
  refine gB_get_History_kept X dX1_keepLast_1 hinX10 hl17 rfl ?_
  refine g_bipush (v := (6 : Int32)) X dX1_keepLast_4 (by decide) rfl ?_
  refine g_icmp_ge X dX1_keepLast_6 20 (by decide) rfl (fun h6 => ?_) (fun h6 => ?_)
  · have i6 := nj_le (a := 6) (b := kp) (by omega) (by omega) h6
    refine g_aload_n X dX1_keepLast_20 rfl 0 rfl rfl ?_
    refine gB_get_History_past X dX1_keepLast_21 hinX10 hl11 rfl ?_
    refine g_iconst (v := (0 : Int32)) X dX1_keepLast_24 (by decide) rfl ?_
    have hk6 : kp = 6 := by omega
    obtain ⟨g0, hg0⟩ := hall hk6 0 (by omega)
    refine gB_ld_past (k := 0) X dX1_keepLast_25 rfl (by omega) rfl ?_
    refine g_st (st' := [.ref (g0.1 0)]) (by rw [fqa_some hg0]; rfl) ?_
    refine g_astore_n X [(1, _), (0, _)] dX1_keepLast_26 rfl (by decide) rfl rfl ?_
    refine g_iconst (v := (0 : Int32)) X dX1_keepLast_27 (by decide) rfl ?_
    refine g_istore_n X [(2, _), (1, _), (0, _)] dX1_keepLast_28 rfl (by decide) rfl rfl ?_
    have L29 : ∀ (m9 : Nat) (i : Nat) (hi : i ≤ 6) (hm : 6 - i = m9), GG p l e (wRoom 0 0 0 0) s m ([.ref (a 23)] : List Value).toArray below meth c D A 3 false 0 0 (MQ below (wrQ D (wB D a f na w td vl L pt fl kd kp (fqa pq) (fqa ps) (tlW D pq ps)) s.heap.size (fun v w9 => v = none ∧ w9 = (wB D a f na w td vl L pt fl kd (kN kp) (fqa (kQ kp pq)) (fqa ps) (tlW D (kQ kp pq) ps)))) ([.ref (a 23)] : List Value).toArray s 0 0 (va_A (wB D a f na w td vl L pt fl kd kp (fqa pq) (fqa ps) (tlW D pq ps)) s.heap.size)) (wB D a f na w td vl L pt fl kd kp (rotI (fqa pq) i) (fqa ps) (tlW D pq ps)) 29 [(2, .int (nI i)), (1, .ref (g0.1 0)), (0, .ref (a 23))] [] := by
      intro m9
      induction m9 using Nat.strongRecOn with
      | _ m9 ih =>
      intro i hi hm
      refine g_iload_n X dX1_keepLast_29 rfl 0 rfl rfl ?_
      refine g_bipush (v := (6 : Int32)) X dX1_keepLast_30 (by decide) rfl ?_
      refine g_icmp_ge X dX1_keepLast_32 55 (by decide) rfl (fun h32 => ?_) (fun h32 => ?_)
      · have i32 := nj_le (a := 6) (b := i) (by omega) (by omega) h32
        refine g_aload_n X dX1_keepLast_55 rfl 2 rfl rfl ?_
        refine gB_get_History_past X dX1_keepLast_56 hinX10 hl11 rfl ?_
        refine g_bipush (v := (6 : Int32)) X dX1_keepLast_59 (by decide) rfl ?_
        refine g_aload_n X dX1_keepLast_61 rfl 1 rfl rfl ?_
        have hi6 : i = 6 := by omega
        subst hi6
        refine gB_st_past (k := 6) (v := g0.1 0) X rfl dX1_keepLast_62 rfl (by omega) (wB_mem (by omega) hg0) rfl ?_
        refine g_ws (wB_fq (rotI_e hg0)) ?_
        refine g_perm (wB_perm tl_rot) ?_
        refine g_vretW X hr dX1_keepLast_63 hAe ?_
        exact ⟨rfl, by unfold kN kQ; rw [if_neg (by omega), if_neg (by omega), hk6]⟩
      · have i32 := nj_nle (a := 6) (b := i) (by omega) (by omega) h32
        refine g_aload_n X dX1_keepLast_35 rfl 2 rfl rfl ?_
        refine gB_get_History_past X dX1_keepLast_36 hinX10 hl11 rfl ?_
        refine g_iload_n X dX1_keepLast_39 rfl 0 rfl rfl ?_
        refine g_aload_n X dX1_keepLast_40 rfl 2 rfl rfl ?_
        refine gB_get_History_past X dX1_keepLast_41 hinX10 hl11 rfl ?_
        refine g_iload_n X dX1_keepLast_44 rfl 0 rfl rfl ?_
        refine g_iconst (v := (1 : Int32)) X dX1_keepLast_45 (by decide) rfl ?_
        refine g_iadd X dX1_keepLast_46 rfl ?_
        refine g_topi (y := nI (i + 1)) (nI_add (i) (1)) ?_
        obtain ⟨g1, hg1⟩ := hall hk6 (i + 1) (by omega)
        refine gB_ld_past (k := i + 1) X dX1_keepLast_47 rfl (by omega) rfl ?_
        refine g_st (st' := [.ref (g1.1 0), _, _]) (by unfold rotI; rw [if_neg (by omega), fqa_some hg1]; rfl) ?_
        refine gB_st_past (k := i) (v := g1.1 0) X rfl dX1_keepLast_48 rfl (by omega) (wB_mem (by omega) hg1) rfl ?_
        refine g_ws (wB_fq (rotI_s (fqa_some hg1))) ?_
        refine g_iinc (v := nI (i + 1)) X [(2, _), (1, _), (0, _)] dX1_keepLast_49 0 rfl (nI_add (i) 1) (by decide) rfl rfl ?_
        refine g_goto X dX1_keepLast_52 29 (by decide) ?_
        exact ih (6 - (i + 1)) (by omega) (i + 1) (by omega) rfl
    refine g_ws (wB_fq (rotI_0 _).symm) ?_
    exact L29 6 0 (by omega) (by omega)
  · have i6 := nj_nle (a := 6) (b := kp) (by omega) (by omega) h6
    refine g_aload_n X dX1_keepLast_9 rfl 0 rfl rfl ?_
    refine g_dup X dX1_keepLast_10 rfl rfl ?_
    refine gB_get_History_kept X dX1_keepLast_11 hinX10 hl17 rfl ?_
    refine g_iconst (v := (1 : Int32)) X dX1_keepLast_14 (by decide) rfl ?_
    refine g_iadd X dX1_keepLast_15 rfl ?_
    refine g_topi (y := nI (kp + 1)) (nI_add (kp) (1)) ?_
    refine gB_put_History_kept (v := (kp + 1)) X rfl dX1_keepLast_16 hinX10 hl17 rfl ?_
    refine g_vretW X hr dX1_keepLast_19 hAe ?_
    exact ⟨rfl, by unfold kN kQ; rw [if_pos (by omega), if_pos (by omega)]⟩

set_option maxHeartbeats 4000000 in
set_option maxRecDepth 100000 in
theorem c_X1_keepUnlessError (l : Launch) (D : DT) (a : Nat → Nat) (f : Nat → Int32) (na : Nat → Nat → Int32) (w td vl : Nat → Int32) (L pt fl : Nat) (kd : Int32) (kp : Nat) (pq ps : Nat → Option HH) (hkp : kp ≤ 6) (hall : kp = 6 → ∀ k, k < 7 → ∃ h : HH, pq k = some h) (x : Int32) : MW l yX1_keepUnlessError wsX1_keepUnlessError 1 22 0 0 D [.ref (a 23), .int x] (wB D a f na w td vl L pt fl kd kp (fqa pq) (fqa ps) (tlW D pq ps)) (fun v w9 => v = some (.int x) ∧ w9 = (wB D a f na w td vl L pt fl kd (kU x kp) (fqa (kV x kp pq)) (fqa ps) (tlW D (kV x kp pq) ps))) := by
  refine MW.of (cc := cX1_keepUnlessError) (maxL := 2) (ret := (some .int)) (lv := [(0, .ref (a 23)), (1, .int x)]) (by decide +kernel) rfl (Nat.le_of_ble_eq_true rfl) rfl ?_
  intro p e s m below meth c A hAe hAg X hr hmn
  have hinX10 : ∀ w ∈ wsX10, w ∈ wsX1_keepUnlessError := fun w h => List.mem_cons_of_mem _ (List.mem_append_right _ h)
  refine g_iload_n X dX1_keepUnlessError_0 rfl 1 rfl rfl ?_
  refine g_if_lt X dX1_keepUnlessError_1 8 (by decide) rfl (fun h1 => ?_) (fun h1 => ?_)
  · have i1 : _ < (0 : Int) := ic_lt h1
    refine g_iload_n X dX1_keepUnlessError_8 rfl 1 rfl rfl ?_
    refine g_retW X hr (by first | rfl | exact b2i_nar _) dX1_keepUnlessError_9 hAe ?_
    first
    | exact ⟨rfl, by unfold kU kV; rw [if_neg (Int32.not_le.mpr h1), if_neg (Int32.not_le.mpr h1)]⟩
    | exact ⟨rfl, by unfold kU kV; rw [if_pos (Int32.not_lt.mp h1), if_pos (Int32.not_lt.mp h1)]⟩
  · have i1 : (0 : Int) ≤ _ := ic_nlt h1
    refine g_aload_n X dX1_keepUnlessError_4 rfl 0 rfl rfl ?_
    refine g_callVXs (n := 0) (As := []) (rest := []) X hAg rfl (c_X1_keepLast l D a f na w td vl L pt fl kd kp pq ps hkp hall) gX1_keepUnlessError_X1_keepLast rfl (by decide +kernel) ⟨Nat.le_of_ble_eq_true rfl, Nat.le_of_ble_eq_true rfl⟩ 21 rfl rfl  rfl rfl (Nat.le_of_ble_eq_true rfl) dX1_keepUnlessError_5 ⟨Nat.le_of_ble_eq_true rfl, Nat.le_of_ble_eq_true rfl⟩ rfl (fun v w hv => ?_)
    obtain ⟨rfl, rfl⟩ := hv
    refine ⟨AD_wB AD_kQ, ?_⟩
    refine g_st (st' := []) rfl ?_
    refine g_iload_n X dX1_keepUnlessError_8 rfl 1 rfl rfl ?_
    refine g_retW X hr (by first | rfl | exact b2i_nar _) dX1_keepUnlessError_9 hAe ?_
    first
    | exact ⟨rfl, by unfold kU kV; rw [if_neg (Int32.not_le.mpr h1), if_neg (Int32.not_le.mpr h1)]⟩
    | exact ⟨rfl, by unfold kU kV; rw [if_pos (Int32.not_lt.mp h1), if_pos (Int32.not_lt.mp h1)]⟩

set_option maxHeartbeats 4000000 in
set_option maxRecDepth 100000 in
theorem c_X1_goBack (l : Launch) (D : DT) (a : Nat → Nat) (f : Nat → Int32) (na : Nat → Nat → Int32) (w td vl : Nat → Int32) (L pt fl : Nat) (kd : Int32) (kp : Nat) (pq ps : Nat → Option HH) (hkp : kp ≤ 6) (hq : HQ pq kp) (hFq : ∀ k, k < kp → ∀ h : HH, pq k = some h → FB h.2.1) : MW l yX1_goBack wsX1_goBack 3 72 0 0 D [.ref (a 23), .ref (a 0)] (wB D a f na w td vl L pt fl kd kp (fqa pq) (fqa ps) (tlW D pq ps)) (fun v w9 => ∃ r : Int32, v = some (.int r) ∧ ((kp = 0 ∧ r = -5 ∧ w9 = (wB D a f na w td vl L pt fl kd kp (fqa pq) (fqa ps) (tlW D pq ps))) ∨ (0 < kp ∧ r = nI (kp - 1) ∧ ∃ (b : Nat → Nat) (g : Nat → Int32) (nb : Nat → Nat → Int32), pq (kp - 1) = some (b, g, nb) ∧ w9 = (wB D a g nb w td vl L pt fl kd (kp - 1) (fqa pq) (fqa ps) (tlW D pq ps))))) := by
  refine MW.of (cc := cX1_goBack) (maxL := 3) (ret := (some .int)) (lv := [(0, .ref (a 23)), (1, .ref (a 0))]) (by decide +kernel) rfl (Nat.le_of_ble_eq_true rfl) rfl ?_
  intro p e s m below meth c A hAe hAg X hr hmn
  have hinX10 : ∀ w ∈ wsX10, w ∈ wsX1_goBack := fun w h => List.mem_cons_of_mem _ (List.mem_append_left _ (List.mem_append_left _ (List.mem_append_left _ (List.mem_append_right _ h))))
  have hinX20 : ∀ w ∈ wsX20, w ∈ wsX1_goBack := fun w h => List.mem_cons_of_mem _ (List.mem_append_left _ (List.mem_append_left _ (List.mem_append_right _ h)))
  have hinX40 : ∀ w ∈ wsX40, w ∈ wsX1_goBack := fun w h => List.mem_cons_of_mem _ (List.mem_append_left _ (List.mem_append_right _ h))
  have hinX00 : ∀ w ∈ wsX00, w ∈ wsX1_goBack := fun w h => List.mem_cons_of_mem _ (List.mem_append_right _ h)
  have hl17 := List.mem_of_getElem? (l := wsX1_goBack) (i := 1) rfl
  have hl11 := List.mem_of_getElem? (l := wsX1_goBack) (i := 2) rfl
  refine g_aload_n X dX1_goBack_0 rfl 0 rfl rfl ?_
  refine gB_get_History_kept X dX1_goBack_1 hinX10 hl17 rfl ?_
  rcases Nat.eq_zero_or_pos kp with hk0 | hk0
  · refine g_if_le X dX1_goBack_4 21 (by decide) rfl (fun _ => ?_) (fun h => absurd (by rw [hk0]; decide) h)
    refine g_null X dX1_goBack_21 rfl ?_
    refine g_astore_nN X [(2, _), (0, _), (1, _)] dX1_goBack_22 rfl (by decide) rfl rfl ?_
    refine g_aload_nN X dX1_goBack_23 rfl 0 rfl rfl ?_
    refine g_ifnonnullN X dX1_goBack_24 rfl ?_
    refine g_bipush (v := ((-5) : Int32)) X dX1_goBack_27 (by decide) rfl ?_
    refine g_retW X hr (by first | rfl | exact b2i_nar _) dX1_goBack_29 hAe ?_
    exact ⟨_, rfl, Or.inl ⟨hk0, rfl, rfl⟩⟩
  · refine g_if_le X dX1_goBack_4 21 (by decide) rfl (fun h => absurd (nj_le (a := kp) (b := 0) (by omega) (by omega) h) (by omega)) (fun _ => ?_)
    obtain ⟨⟨b, g, nb⟩, hpq⟩ := hq (kp - 1) (by omega)
    refine g_aload_n X dX1_goBack_7 rfl 0 rfl rfl ?_
    refine gB_get_History_past X dX1_goBack_8 hinX10 hl11 rfl ?_
    refine g_aload_n X dX1_goBack_11 rfl 0 rfl rfl ?_
    refine gB_get_History_kept X dX1_goBack_12 hinX10 hl17 rfl ?_
    refine g_iconst (v := (1 : Int32)) X dX1_goBack_15 (by decide) rfl ?_
    refine g_isub X dX1_goBack_16 rfl ?_
    refine g_topi (y := nI (kp - 1)) (pk_sub (a := kp) (b := 1) (by omega)) ?_
    refine gB_ld_past (k := kp - 1) X dX1_goBack_17 rfl (by omega) rfl ?_
    refine g_st (st' := [.ref (b 0)]) (by rw [fqa_some hpq]; rfl) ?_
    refine g_goto X dX1_goBack_18 22 (by decide) ?_
    refine g_astore_n X [(2, _), (0, _), (1, _)] dX1_goBack_22 rfl (by decide) rfl rfl ?_
    refine g_aload_n X dX1_goBack_23 rfl 0 rfl rfl ?_
    refine g_ifnonnull X dX1_goBack_24 30 (by decide) ?_
    refine g_aload_n X dX1_goBack_30 rfl 1 rfl rfl ?_
    refine g_dup X dX1_goBack_31 rfl rfl ?_
    refine gB_get_History_kept X dX1_goBack_32 hinX10 hl17 rfl ?_
    refine g_iconst (v := (1 : Int32)) X dX1_goBack_35 (by decide) rfl ?_
    refine g_isub X dX1_goBack_36 rfl ?_
    refine g_topi (y := nI (kp - 1)) (pk_sub (a := kp) (b := 1) (by omega)) ?_
    refine gB_put_History_kept (v := (kp - 1)) X rfl dX1_goBack_37 hinX10 hl17 rfl ?_
    refine g_aload_n X dX1_goBack_40 rfl 2 rfl rfl ?_
    refine g_aload_n X dX1_goBack_41 rfl 0 rfl rfl ?_
    refine g_perm (wB_perm (tl_q (k := kp - 1) (by omega) hpq)) ?_
    refine g_callVWq (n := 1) (As := [_]) (rest := []) X hAg rfl (c_X2_copyFrom l D b a g f nb na (hFq _ (by omega) _ hpq)) gX1_goBack_X2_copyFrom rfl (by decide +kernel) ⟨Nat.le_of_ble_eq_true rfl, Nat.le_of_ble_eq_true rfl⟩ 0 rfl rfl ([0, 1, 2, 3, 4, 5, 6, 7, 8, 9, 10, 11, 12, 13, 14, 15] ++ [24, 25, 26, 27, 28, 29, 30, 31, 32, 33, 34, 35, 36, 37, 38, 39]) rfl (by decide) rfl rfl (Nat.le_of_ble_eq_true rfl) dX1_goBack_42 ⟨Nat.le_of_ble_eq_true rfl, Nat.le_of_ble_eq_true rfl⟩ rfl (fun v w9 hv => ?_)
    obtain ⟨rfl, rfl⟩ := hv
    refine ⟨rfl, ?_⟩
    refine g_ws wB_cp2 ?_
    refine g_st (st' := []) rfl ?_
    refine g_perm (wB_perm (tl_q (k := kp - 1) (by omega) hpq).symm) ?_
    refine g_aload_n X dX1_goBack_45 rfl 1 rfl rfl ?_
    refine gB_get_History_kept X dX1_goBack_46 hinX10 hl17 rfl ?_
    refine g_retW X hr (by first | rfl | exact b2i_nar _) dX1_goBack_49 hAe ?_
    exact ⟨_, rfl, Or.inr ⟨hk0, rfl, b, g, nb, hpq, rfl⟩⟩
