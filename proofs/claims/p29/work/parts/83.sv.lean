set_option maxHeartbeats 4000000 in
set_option maxRecDepth 100000 in
theorem c_X6_save (l : Launch) (D : DT) (a : Nat → Nat) (f : Nat → Int32) (na : Nat → Nat → Int32) (w td vl : Nat → Int32) (L pt fl : Nat) (kd : Int32) (kp : Nat) (pq ps : Nat → Option HH) (hF : FB f) (x : Int32) : MW l yX6_save wsX6_save 3 72 16 340 D [.ref (a 19), .int x] (wB D a f na w td vl L pt fl kd kp (fqa pq) (fqa ps) (tlW D pq ps)) (fun v w9 => AD w9 (wB D a f na w td vl L pt fl kd kp (fqa pq) (fqa ps) (tlW D pq ps)) ∧ ((rng 2 x = true ∧ v = some (.int (f 76)) ∧ ∃ b : Nat → Nat, w9 = (wB D a f na w td vl L pt fl kd kp (fqa pq) (fqa (up ps x.toNatClampNeg (some (b, f, na)))) (tlW D pq (up ps x.toNatClampNeg (some (b, f, na)))))) ∨ (rng 2 x = false ∧ v = some (.int (-2)) ∧ w9 = (wB D a f na w td vl L pt fl kd kp (fqa pq) (fqa ps) (tlW D pq ps))))) := by
  refine MW.of (cc := cX6_save) (maxL := 2) (ret := (some .int)) (lv := [(0, .ref (a 19)), (1, .int x)]) (by decide +kernel) rfl (Nat.le_of_ble_eq_true rfl) rfl ?_
  intro p e s m below meth c A hAe hAg X hr hmn
  have hinX60 : ∀ w ∈ wsX60, w ∈ wsX6_save := fun w h => List.mem_cons_of_mem _ (List.mem_append_left _ (List.mem_append_left _ (List.mem_append_left _ (List.mem_append_right _ h))))
  have hinX20 : ∀ w ∈ wsX20, w ∈ wsX6_save := fun w h => List.mem_cons_of_mem _ (List.mem_append_left _ (List.mem_append_left _ (List.mem_append_right _ h)))
  have hinX40 : ∀ w ∈ wsX40, w ∈ wsX6_save := fun w h => List.mem_cons_of_mem _ (List.mem_append_left _ (List.mem_append_right _ h))
  have hinX00 : ∀ w ∈ wsX00, w ∈ wsX6_save := fun w h => List.mem_cons_of_mem _ (List.mem_append_right _ h)
  have hl37 := List.mem_of_getElem? (l := wsX6_save) (i := 1) rfl
  have hl12 := List.mem_of_getElem? (l := wsX6_save) (i := 5) rfl
  have hl107 := List.mem_of_getElem? (l := wsX6_save) (i := 6) rfl
  have hl175 := List.mem_of_getElem? (l := wsX6_save) (i := 7) rfl
  refine g_iload_n X dX6_save_0 rfl 1 rfl rfl ?_
  refine g_callSR (n := 1) (As := [_]) (rest := []) X (c_X6_isSlot l D x) gX6_save_X6_isSlot rfl (by decide +kernel) ⟨Nat.le_of_ble_eq_true rfl, Nat.le_of_ble_eq_true rfl⟩ [] rfl rfl rfl rfl (Nat.le_of_ble_eq_true rfl) dX6_save_1 ⟨Nat.le_of_ble_eq_true rfl, Nat.le_of_ble_eq_true rfl⟩ rfl (fun v hv => ?_)
  obtain rfl := hv
  refine g_st (st' := [_]) rfl ?_
  refine g_if_ne X dX6_save_4 10 (by decide) rfl (fun h4 => ?_) (fun h4 => ?_)
  · replace h4 := b2i_n0 h4
    obtain ⟨q, hq, rfl⟩ := rng_nI h4
    refine g_aload_n X dX6_save_10 rfl 0 rfl rfl ?_
    refine gB_get_VisaPages_slots X dX6_save_11 hinX60 hl37 rfl ?_
    refine g_iload_n X dX6_save_14 rfl 1 rfl rfl ?_
    refine gB_ld_slots (k := q) X dX6_save_15 rfl (by omega) rfl ?_
    rcases optHH (ps q) with hps | ⟨b, g, nb, hps⟩
    · refine g_st (st' := [.null]) (by rw [fqa_none hps]; rfl) ?_
      refine g_ifnonnullN X dX6_save_16 rfl ?_
      refine g_aload_n X dX6_save_19 rfl 0 rfl rfl ?_
      refine gB_get_VisaPages_slots X dX6_save_20 hinX60 hl37 rfl ?_
      refine g_iload_n X dX6_save_23 rfl 1 rfl rfl ?_
      refine g_new (ci := 2) (fs := [.null, .null, .null, .null, .null, .null, .int 0, .int 0, .int 0, .int 0]) X tyX2 hAg rfl dX6_save_24 hinX20 tyX2_ok (List.mem_of_getElem? (l := wsX6_save) (i := 2) rfl) (List.mem_of_getElem? (l := wsX6_save) (i := 3) rfl) (List.mem_of_getElem? (l := wsX6_save) (i := 4) rfl) rfl (by decide) ⟨Nat.le_of_ble_eq_true rfl, Nat.le_of_ble_eq_true rfl⟩ rfl (fun qn => ?_)
      refine g_perm (ws' := (qn, .inr (2, [.null, .null, .null, .null, .null, .null, .int 0, .int 0, .int 0, .int 0])) :: (wB D a f na w td vl L pt fl kd kp (fqa pq) (fqa ps) (tlW D pq ps))) (perm_last _ _) ?_
      refine g_dup X dX6_save_27 rfl rfl ?_
      refine g_callIA (n := 0) (As := []) (rest := [_, _, _]) X hAg rfl (c_X2_init l D qn) gX6_save_X2_init (List.mem_of_getElem? (l := wsX6_save) (i := 4) rfl) (List.mem_of_getElem? (l := wsX6_save) (i := 12) rfl) (List.mem_of_getElem? (l := wsX6_save) (i := 13) rfl) rfl rfl (by decide +kernel) ⟨Nat.le_of_ble_eq_true rfl, Nat.le_of_ble_eq_true rfl⟩ [0] rfl (by decide) rfl rfl (Nat.le_of_ble_eq_true rfl) dX6_save_28 ⟨Nat.le_of_ble_eq_true rfl, Nat.le_of_ble_eq_true rfl⟩ rfl (fun v w9 hv => ?_)
      obtain ⟨rfl, hb, rfl, rfl⟩ := hv
      refine ⟨(wH D hb f0S na0S).take 1, (wH D hb f0S na0S).drop 1, rfl, rfl, ?_⟩
      refine g_st (st' := [_, _, _]) rfl ?_
      refine g_ws (ws' := ((hb 0, .inr (2, [.ref (hb 1), .ref (hb 2), .ref (hb 3), .ref (hb 4), .ref (hb 5), .ref (hb 13), .int (f0S 77), .int (f0S 78), .int (f0S 79), .int (f0S 80)])) :: (wB D a f na w td vl L pt fl kd kp (fqa pq) (fqa ps) (tlW D pq ps))) ++ (wH D hb f0S na0S).drop 1) rfl ?_
      refine g_perm wB_new ?_
      refine g_ws (ws' := (wB D a f na w td vl L pt fl kd kp (fqa pq) (fqa ps) (wH D hb f0S na0S ++ tlW D pq ps))) rfl ?_
      refine gB_st_slots (k := q) (v := hb 0) X rfl dX6_save_31 rfl (by omega) ⟨24, _, rfl⟩ rfl ?_
      refine g_ws (wB_fs (fqa_up ps q (hb, f, na)).symm) ?_
      refine g_ws (wB_tl (congrArg (fun z => wH D hb f0S na0S ++ z) (tl_noneS hps).symm)) ?_
      have L32 : ∀ (b : Nat → Nat) (g : Nat → Int32) (nb : Nat → Nat → Int32) (_ : ps q = none ∨ ∃ h : HH, ps q = some h ∧ h.1 = b), GG p l e (wRoom 3 72 16 340) s m ([.ref (a 19), .int (nI q)] : List Value).toArray below meth c D A 2 false 16 340 (MQ below (wrQ D (wB D a f na w td vl L pt fl kd kp (fqa pq) (fqa ps) (tlW D pq ps)) s.heap.size (fun v w9 => AD w9 (wB D a f na w td vl L pt fl kd kp (fqa pq) (fqa ps) (tlW D pq ps)) ∧ ((rng 2 (nI q) = true ∧ v = some (.int (f 76)) ∧ ∃ b : Nat → Nat, w9 = (wB D a f na w td vl L pt fl kd kp (fqa pq) (fqa (up ps (nI q).toNatClampNeg (some (b, f, na)))) (tlW D pq (up ps (nI q).toNatClampNeg (some (b, f, na)))))) ∨ (rng 2 (nI q) = false ∧ v = some (.int (-2)) ∧ w9 = (wB D a f na w td vl L pt fl kd kp (fqa pq) (fqa ps) (tlW D pq ps)))))) ([.ref (a 19), .int (nI q)] : List Value).toArray s 16 340 (va_A (wB D a f na w td vl L pt fl kd kp (fqa pq) (fqa ps) (tlW D pq ps)) s.heap.size)) (wB D a f na w td vl L pt fl kd kp (fqa pq) (fqa (up ps q (some (b, f, na)))) (wH D b g nb ++ tlW D pq (up ps q none))) 32 [(0, .ref (a 19)), (1, .int (nI q))] [] := by
        intro b g nb hbb
        refine g_aload_n X dX6_save_32 rfl 0 rfl rfl ?_
        refine gB_get_VisaPages_slots X dX6_save_33 hinX60 hl37 rfl ?_
        refine g_iload_n X dX6_save_36 rfl 1 rfl rfl ?_
        refine gB_ld_slots (k := q) X dX6_save_37 rfl (by omega) rfl ?_
        refine g_st (st' := [.ref (b 0)]) (by rw [fqa_some (up_s _ _ _)]; rfl) ?_
        refine g_aload_n X dX6_save_38 rfl 0 rfl rfl ?_
        refine gB_get_VisaPages_house X dX6_save_39 hinX60 hl12 rfl ?_
        refine g_callVWq (n := 1) (As := [_]) (rest := []) X hAg rfl (c_X2_copyFrom l D a b f g na nb hF) gX6_save_X2_copyFrom rfl (by decide +kernel) ⟨Nat.le_of_ble_eq_true rfl, Nat.le_of_ble_eq_true rfl⟩ 0 rfl rfl ([24, 25, 26, 27, 28, 29, 30, 31, 32, 33, 34, 35, 36, 37, 38, 39] ++ [0, 1, 2, 3, 4, 5, 6, 7, 8, 9, 10, 11, 12, 13, 14, 15]) rfl (by decide) rfl rfl (Nat.le_of_ble_eq_true rfl) dX6_save_42 ⟨Nat.le_of_ble_eq_true rfl, Nat.le_of_ble_eq_true rfl⟩ rfl (fun v w9 hv => ?_)
        obtain ⟨rfl, rfl⟩ := hv
        refine ⟨rfl, ?_⟩
        refine g_ws wB_cp ?_
        refine g_st (st' := []) rfl ?_
        refine g_aload_n X dX6_save_45 rfl 0 rfl rfl ?_
        refine gB_get_VisaPages_house X dX6_save_46 hinX60 hl12 rfl ?_
        refine gB_get_House_stamps X dX6_save_49 hinX20 hl107 rfl ?_
        refine gB_get_Stamps_made X dX6_save_52 hinX40 hl175 rfl ?_
        refine g_perm (wB_perm (D := D) (tl' := tlW D pq (up ps q (some (b, f, na)))) (by
          have z := tl_s (D := D) (pq := pq) (ps := up ps q (some (b, f, na))) (k := q) (h := (b, f, na)) (by omega) (up_s _ _ _)
          rw [up_up] at z
          exact z.symm)) ?_
        refine g_retW X hr (by first | rfl | exact b2i_nar _) dX6_save_55 hAe ?_
        exact ⟨AD_wB (AD_s (h := (b, f, na)) (by omega) hbb), Or.inl ⟨h4, rfl, b, by rw [nI_clamp (by omega)]⟩⟩
      refine g_widen 16 340 (Nat.le_of_ble_eq_true rfl) (Nat.le_of_ble_eq_true rfl) ?_
      exact L32 hb f0S na0S (Or.inl hps)
    · refine g_st (st' := [.ref (b 0)]) (by rw [fqa_some hps]; rfl) ?_
      refine g_ifnonnull X dX6_save_16 32 (by decide) ?_
      have L32 : ∀ (b : Nat → Nat) (g : Nat → Int32) (nb : Nat → Nat → Int32) (_ : ps q = none ∨ ∃ h : HH, ps q = some h ∧ h.1 = b), GG p l e (wRoom 3 72 16 340) s m ([.ref (a 19), .int (nI q)] : List Value).toArray below meth c D A 2 false 16 340 (MQ below (wrQ D (wB D a f na w td vl L pt fl kd kp (fqa pq) (fqa ps) (tlW D pq ps)) s.heap.size (fun v w9 => AD w9 (wB D a f na w td vl L pt fl kd kp (fqa pq) (fqa ps) (tlW D pq ps)) ∧ ((rng 2 (nI q) = true ∧ v = some (.int (f 76)) ∧ ∃ b : Nat → Nat, w9 = (wB D a f na w td vl L pt fl kd kp (fqa pq) (fqa (up ps (nI q).toNatClampNeg (some (b, f, na)))) (tlW D pq (up ps (nI q).toNatClampNeg (some (b, f, na)))))) ∨ (rng 2 (nI q) = false ∧ v = some (.int (-2)) ∧ w9 = (wB D a f na w td vl L pt fl kd kp (fqa pq) (fqa ps) (tlW D pq ps)))))) ([.ref (a 19), .int (nI q)] : List Value).toArray s 16 340 (va_A (wB D a f na w td vl L pt fl kd kp (fqa pq) (fqa ps) (tlW D pq ps)) s.heap.size)) (wB D a f na w td vl L pt fl kd kp (fqa pq) (fqa (up ps q (some (b, f, na)))) (wH D b g nb ++ tlW D pq (up ps q none))) 32 [(0, .ref (a 19)), (1, .int (nI q))] [] := by
        intro b g nb hbb
        refine g_aload_n X dX6_save_32 rfl 0 rfl rfl ?_
        refine gB_get_VisaPages_slots X dX6_save_33 hinX60 hl37 rfl ?_
        refine g_iload_n X dX6_save_36 rfl 1 rfl rfl ?_
        refine gB_ld_slots (k := q) X dX6_save_37 rfl (by omega) rfl ?_
        refine g_st (st' := [.ref (b 0)]) (by rw [fqa_some (up_s _ _ _)]; rfl) ?_
        refine g_aload_n X dX6_save_38 rfl 0 rfl rfl ?_
        refine gB_get_VisaPages_house X dX6_save_39 hinX60 hl12 rfl ?_
        refine g_callVWq (n := 1) (As := [_]) (rest := []) X hAg rfl (c_X2_copyFrom l D a b f g na nb hF) gX6_save_X2_copyFrom rfl (by decide +kernel) ⟨Nat.le_of_ble_eq_true rfl, Nat.le_of_ble_eq_true rfl⟩ 0 rfl rfl ([24, 25, 26, 27, 28, 29, 30, 31, 32, 33, 34, 35, 36, 37, 38, 39] ++ [0, 1, 2, 3, 4, 5, 6, 7, 8, 9, 10, 11, 12, 13, 14, 15]) rfl (by decide) rfl rfl (Nat.le_of_ble_eq_true rfl) dX6_save_42 ⟨Nat.le_of_ble_eq_true rfl, Nat.le_of_ble_eq_true rfl⟩ rfl (fun v w9 hv => ?_)
        obtain ⟨rfl, rfl⟩ := hv
        refine ⟨rfl, ?_⟩
        refine g_ws wB_cp ?_
        refine g_st (st' := []) rfl ?_
        refine g_aload_n X dX6_save_45 rfl 0 rfl rfl ?_
        refine gB_get_VisaPages_house X dX6_save_46 hinX60 hl12 rfl ?_
        refine gB_get_House_stamps X dX6_save_49 hinX20 hl107 rfl ?_
        refine gB_get_Stamps_made X dX6_save_52 hinX40 hl175 rfl ?_
        refine g_perm (wB_perm (D := D) (tl' := tlW D pq (up ps q (some (b, f, na)))) (by
          have z := tl_s (D := D) (pq := pq) (ps := up ps q (some (b, f, na))) (k := q) (h := (b, f, na)) (by omega) (up_s _ _ _)
          rw [up_up] at z
          exact z.symm)) ?_
        refine g_retW X hr (by first | rfl | exact b2i_nar _) dX6_save_55 hAe ?_
        exact ⟨AD_wB (AD_s (h := (b, f, na)) (by omega) hbb), Or.inl ⟨h4, rfl, b, by rw [nI_clamp (by omega)]⟩⟩
      refine g_widen 16 340 (Nat.zero_le _) (Nat.zero_le _) ?_
      refine g_ws (wB_fs (fqa_same (h' := (b, f, na)) hps rfl).symm) ?_
      refine g_perm (wB_perm (tl_s (by omega) hps)) ?_
      exact L32 b g nb (Or.inr ⟨_, hps, rfl⟩)
  · replace h4 := b2i_0 h4
    refine g_bipush (v := ((-2) : Int32)) X dX6_save_7 (by decide) rfl ?_
    refine g_widen 16 340 (Nat.zero_le _) (Nat.zero_le _) ?_
    refine g_retW X hr (by first | rfl | exact b2i_nar _) dX6_save_9 hAe ?_
    exact ⟨AD.rf rfl, Or.inr ⟨h4, rfl, rfl⟩⟩

set_option maxHeartbeats 4000000 in
set_option maxRecDepth 100000 in
theorem c_X6_restore (l : Launch) (D : DT) (a : Nat → Nat) (f : Nat → Int32) (na : Nat → Nat → Int32) (w td vl : Nat → Int32) (L pt fl : Nat) (kd : Int32) (kp : Nat) (pq ps : Nat → Option HH) (hF : FB f) (hkp : kp ≤ 6) (hqq : HQ pq kp) (hFs : ∀ q, q < 2 → ∀ h : HH, ps q = some h → FB h.2.1) (x : Int32) : MW l yX6_restore wsX6_restore 4 93 16 340 D [.ref (a 19), .int x] (wB D a f na w td vl L pt fl kd kp (fqa pq) (fqa ps) (tlW D pq ps)) (fun v w9 => AD w9 (wB D a f na w td vl L pt fl kd kp (fqa pq) (fqa ps) (tlW D pq ps)) ∧ ((rng 2 x = false ∧ v = some (.int (-2)) ∧ w9 = (wB D a f na w td vl L pt fl kd kp (fqa pq) (fqa ps) (tlW D pq ps))) ∨ (rng 2 x = true ∧ ps x.toNatClampNeg = none ∧ v = some (.int (-5)) ∧ w9 = (wB D a f na w td vl L pt fl kd kp (fqa pq) (fqa ps) (tlW D pq ps))) ∨ (rng 2 x = true ∧ ∃ (b : Nat → Nat) (g : Nat → Int32) (nb : Nat → Nat → Int32) (b0 : Nat → Nat), ps x.toNatClampNeg = some (b, g, nb) ∧ v = some (.int (g 76)) ∧ w9 = (wB D a g nb w td vl L pt fl kd (kU (g 76) kp) (fqa (kV (g 76) kp (up pq kp (some (b0, f, na))))) (fqa ps) (tlW D (kV (g 76) kp (up pq kp (some (b0, f, na)))) ps))))) := by
  refine MW.of (cc := cX6_restore) (maxL := 3) (ret := (some .int)) (lv := [(0, .ref (a 19)), (1, .int x)]) (by decide +kernel) rfl (Nat.le_of_ble_eq_true rfl) rfl ?_
  intro p e s m below meth c A hAe hAg X hr hmn
  have hinX60 : ∀ w ∈ wsX60, w ∈ wsX6_restore := fun w h => List.mem_cons_of_mem _ (List.mem_append_left _ (List.mem_append_left _ (List.mem_append_left _ (List.mem_append_left _ (List.mem_append_right _ h)))))
  have hinX20 : ∀ w ∈ wsX20, w ∈ wsX6_restore := fun w h => List.mem_cons_of_mem _ (List.mem_append_left _ (List.mem_append_left _ (List.mem_append_left _ (List.mem_append_right _ h))))
  have hinX40 : ∀ w ∈ wsX40, w ∈ wsX6_restore := fun w h => List.mem_cons_of_mem _ (List.mem_append_left _ (List.mem_append_left _ (List.mem_append_right _ h)))
  have hinX10 : ∀ w ∈ wsX10, w ∈ wsX6_restore := fun w h => List.mem_cons_of_mem _ (List.mem_append_left _ (List.mem_append_right _ h))
  have hinX00 : ∀ w ∈ wsX00, w ∈ wsX6_restore := fun w h => List.mem_cons_of_mem _ (List.mem_append_right _ h)
  have hl37 := List.mem_of_getElem? (l := wsX6_restore) (i := 1) rfl
  have hl33 := List.mem_of_getElem? (l := wsX6_restore) (i := 2) rfl
  have hl12 := List.mem_of_getElem? (l := wsX6_restore) (i := 3) rfl
  have hl107 := List.mem_of_getElem? (l := wsX6_restore) (i := 4) rfl
  have hl175 := List.mem_of_getElem? (l := wsX6_restore) (i := 5) rfl
  refine g_iload_n X dX6_restore_0 rfl 1 rfl rfl ?_
  refine g_callSR (n := 1) (As := [_]) (rest := []) X (c_X6_isSlot l D x) gX6_restore_X6_isSlot rfl (by decide +kernel) ⟨Nat.le_of_ble_eq_true rfl, Nat.le_of_ble_eq_true rfl⟩ [] rfl rfl rfl rfl (Nat.le_of_ble_eq_true rfl) dX6_restore_1 ⟨Nat.le_of_ble_eq_true rfl, Nat.le_of_ble_eq_true rfl⟩ rfl (fun v hv => ?_)
  obtain rfl := hv
  refine g_st (st' := [_]) rfl ?_
  refine g_if_ne X dX6_restore_4 10 (by decide) rfl (fun h4 => ?_) (fun h4 => ?_)
  · replace h4 := b2i_n0 h4
    obtain ⟨q, hq, rfl⟩ := rng_nI h4
    refine g_aload_n X dX6_restore_10 rfl 0 rfl rfl ?_
    refine gB_get_VisaPages_slots X dX6_restore_11 hinX60 hl37 rfl ?_
    refine g_iload_n X dX6_restore_14 rfl 1 rfl rfl ?_
    refine gB_ld_slots (k := q) X dX6_restore_15 rfl (by omega) rfl ?_
    rcases optHH (ps q) with hps | ⟨b, g, nb, hps⟩
    · refine g_st (st' := [.null]) (by rw [fqa_none hps]; rfl) ?_
      refine g_astore_nN X [(2, _), (0, _), (1, _)] dX6_restore_16 rfl (by decide) rfl rfl ?_
      refine g_aload_nN X dX6_restore_17 rfl 0 rfl rfl ?_
      refine g_ifnonnullN X dX6_restore_18 rfl ?_
      refine g_bipush (v := ((-5) : Int32)) X dX6_restore_21 (by decide) rfl ?_
      refine g_widen 16 340 (Nat.zero_le _) (Nat.zero_le _) ?_
      refine g_retW X hr (by first | rfl | exact b2i_nar _) dX6_restore_23 hAe ?_
      exact ⟨AD.rf rfl, Or.inr (Or.inl ⟨h4, by rw [nI_clamp (by omega)]; exact hps, rfl, rfl⟩)⟩
    · refine g_st (st' := [.ref (b 0)]) (by rw [fqa_some hps]; rfl) ?_
      refine g_astore_n X [(2, _), (0, _), (1, _)] dX6_restore_16 rfl (by decide) rfl rfl ?_
      refine g_aload_n X dX6_restore_17 rfl 0 rfl rfl ?_
      refine g_ifnonnull X dX6_restore_18 24 (by decide) ?_
      refine g_aload_n X dX6_restore_24 rfl 1 rfl rfl ?_
      refine gB_get_VisaPages_history X dX6_restore_25 hinX60 hl33 rfl ?_
      refine g_aload_n X dX6_restore_28 rfl 1 rfl rfl ?_
      refine gB_get_VisaPages_house X dX6_restore_29 hinX60 hl12 rfl ?_
      refine g_callVXs (n := 1) (As := [_]) (rest := []) X hAg rfl (c_X1_remember l D a f na w td vl L pt fl kd kp pq ps hF hkp) gX6_restore_X1_remember rfl (by decide +kernel) ⟨Nat.le_of_ble_eq_true rfl, Nat.le_of_ble_eq_true rfl⟩ 21 rfl rfl  rfl rfl (Nat.le_of_ble_eq_true rfl) dX6_restore_32 ⟨Nat.le_of_ble_eq_true rfl, Nat.le_of_ble_eq_true rfl⟩ rfl (fun v w hv => ?_)
      obtain ⟨rfl, b0, hb0, rfl⟩ := hv
      refine ⟨AD_wB (AD_q (h := (b0, f, na)) (by omega) hb0), ?_⟩
      refine g_st (st' := []) rfl ?_
      refine g_aload_n X dX6_restore_35 rfl 1 rfl rfl ?_
      refine gB_get_VisaPages_house X dX6_restore_36 hinX60 hl12 rfl ?_
      refine g_aload_n X dX6_restore_39 rfl 0 rfl rfl ?_
      refine g_perm (wB_perm (tl_s (k := q) (by omega) hps)) ?_
      refine g_callVWq (n := 1) (As := [_]) (rest := []) X hAg rfl (c_X2_copyFrom l D b a g f nb na (hFs q (by omega) _ hps)) gX6_restore_X2_copyFrom rfl (by decide +kernel) ⟨Nat.le_of_ble_eq_true rfl, Nat.le_of_ble_eq_true rfl⟩ 0 rfl rfl ([0, 1, 2, 3, 4, 5, 6, 7, 8, 9, 10, 11, 12, 13, 14, 15] ++ [24, 25, 26, 27, 28, 29, 30, 31, 32, 33, 34, 35, 36, 37, 38, 39]) rfl (by decide) rfl rfl (Nat.le_of_ble_eq_true rfl) dX6_restore_40 ⟨Nat.le_of_ble_eq_true rfl, Nat.le_of_ble_eq_true rfl⟩ rfl (fun v w9 hv => ?_)
      obtain ⟨rfl, rfl⟩ := hv
      refine ⟨rfl, ?_⟩
      refine g_ws wB_cp2 ?_
      refine g_st (st' := []) rfl ?_
      refine g_perm (wB_perm (tl_s (k := q) (by omega) hps).symm) ?_
      refine g_aload_n X dX6_restore_43 rfl 1 rfl rfl ?_
      refine gB_get_VisaPages_history X dX6_restore_44 hinX60 hl33 rfl ?_
      refine g_aload_n X dX6_restore_47 rfl 1 rfl rfl ?_
      refine gB_get_VisaPages_house X dX6_restore_48 hinX60 hl12 rfl ?_
      refine gB_get_House_stamps X dX6_restore_51 hinX20 hl107 rfl ?_
      refine gB_get_Stamps_made X dX6_restore_54 hinX40 hl175 rfl ?_
      refine g_callVXs (n := 1) (As := [_]) (rest := []) X hAg rfl (c_X1_keepUnlessError l D a g nb w td vl L pt fl kd kp (up pq kp (some (b0, f, na))) ps hkp (fun e k hk => HQ_up hqq k (by omega)) (g 76)) gX6_restore_X1_keepUnlessError rfl (by decide +kernel) ⟨Nat.le_of_ble_eq_true rfl, Nat.le_of_ble_eq_true rfl⟩ 21 rfl rfl  rfl rfl (Nat.le_of_ble_eq_true rfl) dX6_restore_57 ⟨Nat.le_of_ble_eq_true rfl, Nat.le_of_ble_eq_true rfl⟩ rfl (fun v w hv => ?_)
      obtain ⟨rfl, rfl⟩ := hv
      refine ⟨AD_wB AD_kV, ?_⟩
      refine g_st (st' := [_]) rfl ?_
      refine g_widen 16 340 (Nat.le_of_ble_eq_true rfl) (Nat.le_of_ble_eq_true rfl) ?_
      refine g_retW X hr (by first | rfl | exact b2i_nar _) dX6_restore_60 hAe ?_
      exact ⟨AD_wB (AD_kV.trans (AD_q (h := (b0, f, na)) (by omega) hb0)), Or.inr (Or.inr ⟨h4, b, g, nb, b0, by rw [nI_clamp (by omega)]; exact hps, rfl, rfl⟩)⟩
  · replace h4 := b2i_0 h4
    refine g_bipush (v := ((-2) : Int32)) X dX6_restore_7 (by decide) rfl ?_
    refine g_widen 16 340 (Nat.zero_le _) (Nat.zero_le _) ?_
    refine g_retW X hr (by first | rfl | exact b2i_nar _) dX6_restore_9 hAe ?_
    exact ⟨AD.rf rfl, Or.inl ⟨h4, rfl, rfl⟩⟩

set_option maxHeartbeats 4000000 in
set_option maxRecDepth 100000 in
theorem c_X6_carryOut (l : Launch) (D : DT) (a : Nat → Nat) (f : Nat → Int32) (na : Nat → Nat → Int32) (w td vl : Nat → Int32) (L pt fl : Nat) (kd : Int32) (kp : Nat) (pq ps : Nat → Option HH) (mk n b : Nat) (hW : WF f mk n b) (hNR : NR f na n) (hF : FB f) (hkp : kp ≤ 6) (hqq : HQ pq kp) (hL : L ≤ 80) (hch : ∀ k, k < L → ∃ ch : Nat, ch < 256 ∧ td k = nI ch) : MW l yX6_carryOut wsX6_carryOut 7 158 16 340 D [.ref (a 19)] (wB D a f na w td vl L pt fl kd kp (fqa pq) (fqa ps) (tlW D pq ps)) (fun v w9 => AD w9 (wB D a f na w td vl L pt fl kd kp (fqa pq) (fqa ps) (tlW D pq ps)) ∧ ((¬ yF td L 80 0 fl vl = -6 ∧ v = some (.int (-3)) ∧ ∃ (p9 f9 : Nat) (v9 : Nat → Int32) (k9 : Int32), w9 = (wB D a f na w td v9 L p9 f9 k9 kp (fqa pq) (fqa ps) (tlW D pq ps))) ∨ (yF td L 80 0 fl vl = -6 ∧ ∃ (f9 : Nat) (v9 : Nat → Int32) (b0 : Nat → Nat) (nb : Nat → Nat → Int32) (w2 vl2 : Nat → Int32) (p2 fl2 : Nat) (kd2 : Int32), v = some (.int (nI (cyI td L 80 0 0 f9 v9 f).1)) ∧ (cyI td L 80 0 0 f9 v9 f).1 ≤ 80 ∧ NRx (cyI td L 80 0 0 f9 v9 f).2 nb ∧ w9 = (wB D a (cyI td L 80 0 0 f9 v9 f).2 nb w2 td vl2 0 p2 fl2 kd2 (kU (nI (cyI td L 80 0 0 f9 v9 f).1) kp) (fqa (kV (nI (cyI td L 80 0 0 f9 v9 f).1) kp (up pq kp (some (b0, f, na))))) (fqa ps) (tlW D (kV (nI (cyI td L 80 0 0 f9 v9 f).1) kp (up pq kp (some (b0, f, na)))) ps))))) := by
  refine MW.of (cc := cX6_carryOut) (maxL := 2) (ret := (some .int)) (lv := [(0, .ref (a 19))]) (by decide +kernel) rfl (Nat.le_of_ble_eq_true rfl) rfl ?_
  intro p e s m below meth c A hAe hAg X hr hmn
  have hinX60 : ∀ w ∈ wsX60, w ∈ wsX6_carryOut := fun w h => List.mem_cons_of_mem _ (List.mem_append_left _ (List.mem_append_left _ (List.mem_append_left _ (List.mem_append_left _ (List.mem_append_left _ (List.mem_append_left _ (List.mem_append_right _ h)))))))
  have hinX30 : ∀ w ∈ wsX30, w ∈ wsX6_carryOut := fun w h => List.mem_cons_of_mem _ (List.mem_append_left _ (List.mem_append_left _ (List.mem_append_left _ (List.mem_append_left _ (List.mem_append_left _ (List.mem_append_right _ h))))))
  have hinX10 : ∀ w ∈ wsX10, w ∈ wsX6_carryOut := fun w h => List.mem_cons_of_mem _ (List.mem_append_left _ (List.mem_append_left _ (List.mem_append_left _ (List.mem_append_left _ (List.mem_append_right _ h)))))
  have hinX20 : ∀ w ∈ wsX20, w ∈ wsX6_carryOut := fun w h => List.mem_cons_of_mem _ (List.mem_append_left _ (List.mem_append_left _ (List.mem_append_left _ (List.mem_append_right _ h))))
  have hinX40 : ∀ w ∈ wsX40, w ∈ wsX6_carryOut := fun w h => List.mem_cons_of_mem _ (List.mem_append_left _ (List.mem_append_left _ (List.mem_append_right _ h)))
  have hinX00 : ∀ w ∈ wsX00, w ∈ wsX6_carryOut := fun w h => List.mem_cons_of_mem _ (List.mem_append_left _ (List.mem_append_right _ h))
  have hinX50 : ∀ w ∈ wsX50, w ∈ wsX6_carryOut := fun w h => List.mem_cons_of_mem _ (List.mem_append_right _ h)
  have hl26 := List.mem_of_getElem? (l := wsX6_carryOut) (i := 1) rfl
  have hl33 := List.mem_of_getElem? (l := wsX6_carryOut) (i := 2) rfl
  have hl12 := List.mem_of_getElem? (l := wsX6_carryOut) (i := 3) rfl
  have hl19 := List.mem_of_getElem? (l := wsX6_carryOut) (i := 4) rfl
  refine g_aload_n X dX6_carryOut_0 rfl 0 rfl rfl ?_
  refine gB_get_VisaPages_pad X dX6_carryOut_1 hinX60 hl26 rfl ?_
  refine g_callVWq (n := 0) (As := []) (rest := []) X hAg rfl (c_X3_findFault l D _ _ _ _ _ _ _ hL hch) gX6_carryOut_X3_findFault rfl (by decide +kernel) ⟨Nat.le_of_ble_eq_true rfl, Nat.le_of_ble_eq_true rfl⟩ 0 rfl rfl [17, 18, 19] rfl (by decide) rfl rfl (Nat.le_of_ble_eq_true rfl) dX6_carryOut_4 ⟨Nat.le_of_ble_eq_true rfl, Nat.le_of_ble_eq_true rfl⟩ rfl (fun v w hv => ?_)
  obtain ⟨rfl, p9, f9, v9, k9, hp9, rfl⟩ := hv
  refine ⟨rfl, ?_⟩
  refine g_ws wB_p ?_
  refine g_st (st' := [_]) rfl ?_
  refine g_bipush (v := ((-6) : Int32)) X dX6_carryOut_7 (by decide) rfl ?_
  refine g_icmp_eq X dX6_carryOut_9 15 (by decide) rfl (fun h9 => ?_) (fun h9 => ?_)
  · refine g_aload_n X dX6_carryOut_15 rfl 0 rfl rfl ?_
    refine gB_get_VisaPages_history X dX6_carryOut_16 hinX60 hl33 rfl ?_
    refine g_aload_n X dX6_carryOut_19 rfl 0 rfl rfl ?_
    refine gB_get_VisaPages_house X dX6_carryOut_20 hinX60 hl12 rfl ?_
    refine g_callVXs (n := 1) (As := [_]) (rest := []) X hAg rfl (c_X1_remember l D a f na w td v9 L p9 f9 k9 kp pq ps hF hkp) gX6_carryOut_X1_remember rfl (by decide +kernel) ⟨Nat.le_of_ble_eq_true rfl, Nat.le_of_ble_eq_true rfl⟩ 21 rfl rfl  rfl rfl (Nat.le_of_ble_eq_true rfl) dX6_carryOut_23 ⟨Nat.le_of_ble_eq_true rfl, Nat.le_of_ble_eq_true rfl⟩ rfl (fun v w hv => ?_)
    obtain ⟨rfl, b0, hb0, rfl⟩ := hv
    refine ⟨AD_wB (AD_q (h := (b0, f, na)) (by omega) hb0), ?_⟩
    refine g_st (st' := []) rfl ?_
    refine g_iconst (v := (0 : Int32)) X dX6_carryOut_26 (by decide) rfl ?_
    refine g_istore_n X [(1, _), (0, _)] dX6_carryOut_27 rfl (by decide) rfl rfl ?_
    refine g_aload_n X dX6_carryOut_28 rfl 1 rfl rfl ?_
    refine gB_get_VisaPages_pad X dX6_carryOut_29 hinX60 hl26 rfl ?_
    refine g_callVWq (n := 0) (As := []) (rest := []) X hAg rfl (c_X3_startReading l D _ _ _ _ _ _ _ hL) gX6_carryOut_X3_startReading rfl (by decide +kernel) ⟨Nat.le_of_ble_eq_true rfl, Nat.le_of_ble_eq_true rfl⟩ 0 rfl rfl [17, 18, 19] rfl (by decide) rfl rfl (Nat.le_of_ble_eq_true rfl) dX6_carryOut_32 ⟨Nat.le_of_ble_eq_true rfl, Nat.le_of_ble_eq_true rfl⟩ rfl (fun v w hv => ?_)
    obtain ⟨rfl, rfl⟩ := hv
    refine ⟨rfl, ?_⟩
    refine g_ws wB_p ?_
    refine g_st (st' := []) rfl ?_
    have L35 : ∀ (k cn p1 fl1 : Nat) (vl1 : Nat → Int32) (kd1 : Int32) (f1 : Nat → Int32) (na1 : Nat → Nat → Int32) (w1 : Nat → Int32) (hk : cn + k = 80) (hp1 : p1 ≤ L + 1) (hx1 : WFx f1) (hNx : NRx f1 na1) (hR : cyI td L k cn p1 fl1 vl1 f1 = (cyI td L 80 0 0 f9 v9 f)), GG p l e (wRoom 7 158 16 340) s m ([.ref (a 19)] : List Value).toArray below meth c D A 2 false (0 + 0 + 16 + 0) (0 + 0 + 340 + 0) (MQ below (wrQ D (wB D a f na w td vl L pt fl kd kp (fqa pq) (fqa ps) (tlW D pq ps)) s.heap.size (fun v w9 => AD w9 (wB D a f na w td vl L pt fl kd kp (fqa pq) (fqa ps) (tlW D pq ps)) ∧ ((¬ yF td L 80 0 fl vl = -6 ∧ v = some (.int (-3)) ∧ ∃ (p9 f9 : Nat) (v9 : Nat → Int32) (k9 : Int32), w9 = (wB D a f na w td v9 L p9 f9 k9 kp (fqa pq) (fqa ps) (tlW D pq ps))) ∨ (yF td L 80 0 fl vl = -6 ∧ ∃ (f9 : Nat) (v9 : Nat → Int32) (b0 : Nat → Nat) (nb : Nat → Nat → Int32) (w2 vl2 : Nat → Int32) (p2 fl2 : Nat) (kd2 : Int32), v = some (.int (nI (cyI td L 80 0 0 f9 v9 f).1)) ∧ (cyI td L 80 0 0 f9 v9 f).1 ≤ 80 ∧ NRx (cyI td L 80 0 0 f9 v9 f).2 nb ∧ w9 = (wB D a (cyI td L 80 0 0 f9 v9 f).2 nb w2 td vl2 0 p2 fl2 kd2 (kU (nI (cyI td L 80 0 0 f9 v9 f).1) kp) (fqa (kV (nI (cyI td L 80 0 0 f9 v9 f).1) kp (up pq kp (some (b0, f, na))))) (fqa ps) (tlW D (kV (nI (cyI td L 80 0 0 f9 v9 f).1) kp (up pq kp (some (b0, f, na)))) ps)))))) ([.ref (a 19)] : List Value).toArray s 16 340 (va_A (wB D a f na w td vl L pt fl kd kp (fqa pq) (fqa ps) (tlW D pq ps)) s.heap.size)) (wB D a f1 na1 w1 td vl1 L p1 fl1 kd1 kp (fqa (up pq kp (some (b0, f, na)))) (fqa ps) (tlW D (up pq kp (some (b0, f, na))) ps)) 35 [(1, .int (nI cn)), (0, .ref (a 19))] [] := by
      intro k
      induction k using Nat.strongRecOn with
      | _ k ih =>
      intro cn p1 fl1 vl1 kd1 f1 na1 w1 hk hp1 hx1 hNx hR
      obtain ⟨mk1, m1, b1, hW1⟩ := id hx1
      have hNR1 := hNx.to hW1
      refine g_iload_n X dX6_carryOut_35 rfl 0 rfl rfl ?_
      refine g_bipush (v := (80 : Int32)) X dX6_carryOut_36 (by decide) rfl ?_
      refine g_icmp_ge X dX6_carryOut_38 82 (by decide) rfl (fun h38 => ?_) (fun h38 => ?_)
      · have i38 := nj_le (a := 80) (b := cn) (by omega) (by omega) h38
        refine g_aload_n X dX6_carryOut_82 rfl 1 rfl rfl ?_
        refine gB_get_VisaPages_pad X dX6_carryOut_83 hinX60 hl26 rfl ?_
        refine g_callVWq (n := 0) (As := []) (rest := []) X hAg rfl (c_X3_clear l D _ _ _ _ _ _ _ hL) gX6_carryOut_X3_clear rfl (by decide +kernel) ⟨Nat.le_of_ble_eq_true rfl, Nat.le_of_ble_eq_true rfl⟩ 0 rfl rfl [17, 18, 19] rfl (by decide) rfl rfl (Nat.le_of_ble_eq_true rfl) dX6_carryOut_86 ⟨Nat.le_of_ble_eq_true rfl, Nat.le_of_ble_eq_true rfl⟩ rfl (fun v w hv => ?_)
        obtain ⟨rfl, rfl⟩ := hv
        refine ⟨rfl, ?_⟩
        refine g_ws wB_p ?_
        refine g_st (st' := [_]) rfl ?_
        refine g_pop X dX6_carryOut_89 rfl rfl ?_
        refine g_aload_n X dX6_carryOut_90 rfl 1 rfl rfl ?_
        refine gB_get_VisaPages_history X dX6_carryOut_91 hinX60 hl33 rfl ?_
        refine g_iload_n X dX6_carryOut_94 rfl 0 rfl rfl ?_
        refine g_callVXs (n := 1) (As := [_]) (rest := []) X hAg rfl (c_X1_keepUnlessError l D a _ _ _ td _ _ _ _ _ kp (up pq kp (some (b0, f, na))) ps hkp (fun e k hk => HQ_up hqq k (by omega)) _) gX6_carryOut_X1_keepUnlessError rfl (by decide +kernel) ⟨Nat.le_of_ble_eq_true rfl, Nat.le_of_ble_eq_true rfl⟩ 21 rfl rfl  rfl rfl (Nat.le_of_ble_eq_true rfl) dX6_carryOut_95 ⟨Nat.le_of_ble_eq_true rfl, Nat.le_of_ble_eq_true rfl⟩ rfl (fun v w hv => ?_)
        obtain ⟨rfl, rfl⟩ := hv
        refine ⟨AD_wB AD_kV, ?_⟩
        refine g_st (st' := [_]) rfl ?_
        refine g_widen 16 340 (Nat.le_of_ble_eq_true rfl) (Nat.le_of_ble_eq_true rfl) ?_
        refine g_retW X hr (by first | rfl | exact b2i_nar _) dX6_carryOut_98 hAe ?_
        obtain rfl : k = 0 := by omega
        have hC : (cyI td L 80 0 0 f9 v9 f) = (cn, f1) := hR.symm
        refine ⟨AD_wB (AD_kV.trans (AD_q (h := (b0, f, na)) (by omega) hb0)), Or.inr ⟨h9, f9, v9, b0, na1, w1, vl1, p1, fl1, kd1, ?_⟩⟩
        rw [hC]
        exact ⟨rfl, (by show cn ≤ 80; omega), hNx, rfl⟩
      · have i38 := nj_nle (a := 80) (b := cn) (by omega) (by omega) h38
        refine g_aload_n X dX6_carryOut_41 rfl 1 rfl rfl ?_
        refine gB_get_VisaPages_pad X dX6_carryOut_42 hinX60 hl26 rfl ?_
        refine g_callVWq (n := 0) (As := []) (rest := []) X hAg rfl (c_X3_readOrder2 l D _ _ _ _ _ _ _ hL hp1 hch) gX6_carryOut_X3_readOrder rfl (by decide +kernel) ⟨Nat.le_of_ble_eq_true rfl, Nat.le_of_ble_eq_true rfl⟩ 0 rfl rfl [17, 18, 19] rfl (by decide) rfl rfl (Nat.le_of_ble_eq_true rfl) dX6_carryOut_45 ⟨Nat.le_of_ble_eq_true rfl, Nat.le_of_ble_eq_true rfl⟩ rfl (fun v w hv => ?_)
        obtain ⟨rfl, rfl⟩ := hv
        refine ⟨rfl, ?_⟩
        refine g_ws wB_p ?_
        refine g_st (st' := [_]) rfl ?_
        refine g_if_eq X dX6_carryOut_48 82 (by decide) rfl (fun h48 => ?_) (fun h48 => ?_)
        · replace h48 := b2i_0 h48
          refine g_aload_n X dX6_carryOut_82 rfl 1 rfl rfl ?_
          refine gB_get_VisaPages_pad X dX6_carryOut_83 hinX60 hl26 rfl ?_
          refine g_callVWq (n := 0) (As := []) (rest := []) X hAg rfl (c_X3_clear l D _ _ _ _ _ _ _ hL) gX6_carryOut_X3_clear rfl (by decide +kernel) ⟨Nat.le_of_ble_eq_true rfl, Nat.le_of_ble_eq_true rfl⟩ 0 rfl rfl [17, 18, 19] rfl (by decide) rfl rfl (Nat.le_of_ble_eq_true rfl) dX6_carryOut_86 ⟨Nat.le_of_ble_eq_true rfl, Nat.le_of_ble_eq_true rfl⟩ rfl (fun v w hv => ?_)
          obtain ⟨rfl, rfl⟩ := hv
          refine ⟨rfl, ?_⟩
          refine g_ws wB_p ?_
          refine g_st (st' := [_]) rfl ?_
          refine g_pop X dX6_carryOut_89 rfl rfl ?_
          refine g_aload_n X dX6_carryOut_90 rfl 1 rfl rfl ?_
          refine gB_get_VisaPages_history X dX6_carryOut_91 hinX60 hl33 rfl ?_
          refine g_iload_n X dX6_carryOut_94 rfl 0 rfl rfl ?_
          refine g_callVXs (n := 1) (As := [_]) (rest := []) X hAg rfl (c_X1_keepUnlessError l D a _ _ _ td _ _ _ _ _ kp (up pq kp (some (b0, f, na))) ps hkp (fun e k hk => HQ_up hqq k (by omega)) _) gX6_carryOut_X1_keepUnlessError rfl (by decide +kernel) ⟨Nat.le_of_ble_eq_true rfl, Nat.le_of_ble_eq_true rfl⟩ 21 rfl rfl  rfl rfl (Nat.le_of_ble_eq_true rfl) dX6_carryOut_95 ⟨Nat.le_of_ble_eq_true rfl, Nat.le_of_ble_eq_true rfl⟩ rfl (fun v w hv => ?_)
          obtain ⟨rfl, rfl⟩ := hv
          refine ⟨AD_wB AD_kV, ?_⟩
          refine g_st (st' := [_]) rfl ?_
          refine g_widen 16 340 (Nat.le_of_ble_eq_true rfl) (Nat.le_of_ble_eq_true rfl) ?_
          refine g_retW X hr (by first | rfl | exact b2i_nar _) dX6_carryOut_98 hAe ?_
          obtain ⟨k2, rfl⟩ : ∃ k2, k = k2 + 1 := ⟨k - 1, by omega⟩
          have hC : (cyI td L 80 0 0 f9 v9 f) = (cn, f1) := hR.symm.trans (by rw [cyI, if_neg (by rw [h48]; exact Bool.false_ne_true)])
          refine ⟨AD_wB (AD_kV.trans (AD_q (h := (b0, f, na)) (by omega) hb0)), Or.inr ⟨h9, f9, v9, b0, na1, w1, (yOrder td L p1 fl1 vl1).2.2.2, (yOrder td L p1 fl1 vl1).2.1, (yOrder td L p1 fl1 vl1).2.2.1, (if L ≤ p1 then kd1 else td p1), ?_⟩⟩
          rw [hC]
          exact ⟨rfl, (by show cn ≤ 80; omega), hNx, rfl⟩
        · replace h48 := b2i_n0 h48
          obtain ⟨hpl, hkd⟩ := yOrder_kd h48
          refine g_ws (wB_kd (if_neg (by omega))) ?_
          refine g_aload_n X dX6_carryOut_51 rfl 1 rfl rfl ?_
          refine gB_get_VisaPages_house X dX6_carryOut_52 hinX60 hl12 rfl ?_
          refine g_aload_n X dX6_carryOut_55 rfl 1 rfl rfl ?_
          refine gB_get_VisaPages_pad X dX6_carryOut_56 hinX60 hl26 rfl ?_
          refine g_aload_n X dX6_carryOut_59 rfl 1 rfl rfl ?_
          refine gB_get_VisaPages_walker X dX6_carryOut_60 hinX60 hl19 rfl ?_
          refine g_callVXs (n := 2) (As := [_, _]) (rest := []) X hAg rfl (c_X2_follow l D a f1 na1 w1 td (yOrder td L p1 fl1 vl1).2.2.2 L (yOrder td L p1 fl1 vl1).2.1 (yOrder td L p1 fl1 vl1).2.2.1 (td p1) kp (fqa (up pq kp (some (b0, f, na)))) (fqa ps) (tlW D (up pq kp (some (b0, f, na))) ps) mk1 m1 b1 hW1 hNR1 hkd) gX6_carryOut_X2_follow rfl (by decide +kernel) ⟨Nat.le_of_ble_eq_true rfl, Nat.le_of_ble_eq_true rfl⟩ 0 rfl rfl  rfl rfl (Nat.le_of_ble_eq_true rfl) dX6_carryOut_63 ⟨Nat.le_of_ble_eq_true rfl, Nat.le_of_ble_eq_true rfl⟩ rfl (fun v w hv => ?_)
          obtain ⟨rfl, nb, n', w', hN9, h909, rfl⟩ := hv
          refine ⟨AD.rf rfl, ?_⟩
          refine g_st (st' := [_]) rfl ?_
          refine g_if_lt X dX6_carryOut_66 82 (by decide) rfl (fun h66 => ?_) (fun h66 => ?_)
          · have i66 : _ < (0 : Int) := ic_lt h66
            refine g_aload_n X dX6_carryOut_82 rfl 1 rfl rfl ?_
            refine gB_get_VisaPages_pad X dX6_carryOut_83 hinX60 hl26 rfl ?_
            refine g_callVWq (n := 0) (As := []) (rest := []) X hAg rfl (c_X3_clear l D _ _ _ _ _ _ _ hL) gX6_carryOut_X3_clear rfl (by decide +kernel) ⟨Nat.le_of_ble_eq_true rfl, Nat.le_of_ble_eq_true rfl⟩ 0 rfl rfl [17, 18, 19] rfl (by decide) rfl rfl (Nat.le_of_ble_eq_true rfl) dX6_carryOut_86 ⟨Nat.le_of_ble_eq_true rfl, Nat.le_of_ble_eq_true rfl⟩ rfl (fun v w hv => ?_)
            obtain ⟨rfl, rfl⟩ := hv
            refine ⟨rfl, ?_⟩
            refine g_ws wB_p ?_
            refine g_st (st' := [_]) rfl ?_
            refine g_pop X dX6_carryOut_89 rfl rfl ?_
            refine g_aload_n X dX6_carryOut_90 rfl 1 rfl rfl ?_
            refine gB_get_VisaPages_history X dX6_carryOut_91 hinX60 hl33 rfl ?_
            refine g_iload_n X dX6_carryOut_94 rfl 0 rfl rfl ?_
            refine g_callVXs (n := 1) (As := [_]) (rest := []) X hAg rfl (c_X1_keepUnlessError l D a _ _ _ td _ _ _ _ _ kp (up pq kp (some (b0, f, na))) ps hkp (fun e k hk => HQ_up hqq k (by omega)) _) gX6_carryOut_X1_keepUnlessError rfl (by decide +kernel) ⟨Nat.le_of_ble_eq_true rfl, Nat.le_of_ble_eq_true rfl⟩ 21 rfl rfl  rfl rfl (Nat.le_of_ble_eq_true rfl) dX6_carryOut_95 ⟨Nat.le_of_ble_eq_true rfl, Nat.le_of_ble_eq_true rfl⟩ rfl (fun v w hv => ?_)
            obtain ⟨rfl, rfl⟩ := hv
            refine ⟨AD_wB AD_kV, ?_⟩
            refine g_st (st' := [_]) rfl ?_
            refine g_widen 16 340 (Nat.le_of_ble_eq_true rfl) (Nat.le_of_ble_eq_true rfl) ?_
            refine g_retW X hr (by first | rfl | exact b2i_nar _) dX6_carryOut_98 hAe ?_
            obtain ⟨k2, rfl⟩ : ∃ k2, k = k2 + 1 := ⟨k - 1, by omega⟩
            have hC : (cyI td L 80 0 0 f9 v9 f) = (cn, (crS f1 (td p1) ((yOrder td L p1 fl1 vl1).2.2.2 0) ((yOrder td L p1 fl1 vl1).2.2.2 1) ((yOrder td L p1 fl1 vl1).2.2.2 2) ((yOrder td L p1 fl1 vl1).2.2.2 3)).2) := hR.symm.trans (by rw [cyI, if_pos h48, if_neg (Int32.not_le.mpr h66)])
            refine ⟨AD_wB (AD_kV.trans (AD_q (h := (b0, f, na)) (by omega) hb0)), Or.inr ⟨h9, f9, v9, b0, nb, w', (yOrder td L p1 fl1 vl1).2.2.2, (yOrder td L p1 fl1 vl1).2.1, (yOrder td L p1 fl1 vl1).2.2.1, td p1, ?_⟩⟩
            rw [hC]
            exact ⟨rfl, (by show cn ≤ 80; omega), ⟨n', hN9, h909⟩, rfl⟩
          · have i66 : (0 : Int) ≤ _ := ic_nlt h66
            refine g_iinc (v := nI (cn + 1)) X [(1, _), (0, _)] dX6_carryOut_69 0 rfl (nI_add (cn) 1) (by decide) rfl rfl ?_
            refine g_aload_n X dX6_carryOut_72 rfl 1 rfl rfl ?_
            refine gB_get_VisaPages_pad X dX6_carryOut_73 hinX60 hl26 rfl ?_
            refine g_callVWq (n := 0) (As := []) (rest := []) X hAg rfl (c_X3_skipSign l D _ _ _ _ _ _ _ hL) gX6_carryOut_X3_skipSign rfl (by decide +kernel) ⟨Nat.le_of_ble_eq_true rfl, Nat.le_of_ble_eq_true rfl⟩ 0 rfl rfl [17, 18, 19] rfl (by decide) rfl rfl (Nat.le_of_ble_eq_true rfl) dX6_carryOut_76 ⟨Nat.le_of_ble_eq_true rfl, Nat.le_of_ble_eq_true rfl⟩ rfl (fun v w hv => ?_)
            obtain ⟨rfl, rfl⟩ := hv
            refine ⟨rfl, ?_⟩
            refine g_ws wB_p ?_
            refine g_st (st' := []) rfl ?_
            refine g_goto X dX6_carryOut_79 35 (by decide) ?_
            obtain ⟨k2, rfl⟩ : ∃ k2, k = k2 + 1 := ⟨k - 1, by omega⟩
            have hb := yOrder_b (td := td) (fl := fl1) (vl := vl1) (L := L) (pt := p1) (by omega)
            refine g_widen (0 + 0 + 16 + 0) (0 + 0 + 340 + 0) (Nat.le_of_ble_eq_true rfl) (Nat.le_of_ble_eq_true rfl) ?_
            exact ih k2 (by omega) (cn + 1) _ _ _ _ _ _ _ (by omega) (by omega) (cr_ok hx1) ⟨n', hN9, h909⟩ (by rw [← hR, cyI, if_pos h48, if_pos (Int32.not_lt.mp h66)])
    exact L35 80 0 0 f9 v9 k9 f na w (by omega) (by omega) ⟨mk, n, b, hW⟩ ⟨n, hNR, hW.2.2.1⟩ rfl
  · refine g_bipush (v := ((-3) : Int32)) X dX6_carryOut_12 (by decide) rfl ?_
    refine g_widen 16 340 (Nat.le_of_ble_eq_true rfl) (Nat.le_of_ble_eq_true rfl) ?_
    refine g_retW X hr (by first | rfl | exact b2i_nar _) dX6_carryOut_14 hAe ?_
    exact ⟨AD.rf rfl, Or.inl ⟨h9, rfl, p9, f9, v9, k9, rfl⟩⟩
