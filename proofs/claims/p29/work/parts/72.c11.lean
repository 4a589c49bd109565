set_option maxHeartbeats 4000000 in
set_option maxRecDepth 100000 in
theorem c_X6_leads (l : Launch) (D : DT) (a : Nat → Nat) (f : Nat → Int32) (na : Nat → Nat → Int32) (w td vl : Nat → Int32) (L pt fl : Nat) (kd : Int32) (kp : Nat) (fq fs : Nat → Option Nat) (tl : va_W) (mk n b : Nat) (hW : WF f mk n b) (hNR : NR f na n) (g d : Int32) : MR l yX6_leads wsX6_leads 2 43 D [.ref (a 19), .int g, .int d] (wB D a f na w td vl L pt fl kd kp fq fs tl) (fun v => v = some (.int (leadsS f g d))) := by
  obtain ⟨hmk, h40, hn8, hb0, hb1, hb8, hnb, hst, hno, how, hdo, hs1, hs2, hs3, hZF⟩ := id hW
  have h8 : n ≤ 8 := by omega
  obtain ⟨eN1, eN2, eN3⟩ := hW.N
  refine MR.of (cc := cX6_leads) (maxL := 3) (ret := (some .int)) (lv := [(0, .ref (a 19)), (1, .int g), (2, .int d)]) (by decide +kernel) rfl (Nat.le_of_ble_eq_true rfl) rfl ?_
  intro p e s m below meth c A X hr hmn
  have hinX60 : ∀ w ∈ wsX60, w ∈ wsX6_leads := fun w h => List.mem_cons_of_mem _ (List.mem_append_left _ (List.mem_append_right _ h))
  have hinX20 : ∀ w ∈ wsX20, w ∈ wsX6_leads := fun w h => List.mem_cons_of_mem _ (List.mem_append_right _ h)
  have hl12 := List.mem_of_getElem? (l := wsX6_leads) (i := 1) rfl
  refine g_iload_n X dX6_leads_0 rfl 1 rfl rfl ?_
  refine g_iload_n X dX6_leads_1 rfl 2 rfl rfl ?_
  refine g_callSR (n := 2) (As := [_, _]) (rest := []) X (c_X6_isDoor l D _ _) gX6_leads_X6_isDoor rfl (by decide +kernel) ⟨Nat.le_of_ble_eq_true rfl, Nat.le_of_ble_eq_true rfl⟩ [] rfl rfl rfl rfl (Nat.le_of_ble_eq_true rfl) dX6_leads_2 ⟨Nat.le_of_ble_eq_true rfl, Nat.le_of_ble_eq_true rfl⟩ rfl (fun v hv => ?_)
  obtain rfl := hv
  refine g_st (st' := [_]) rfl ?_
  refine g_if_eq X dX6_leads_5 20 (by decide) rfl (fun h5 => ?_) (fun h5 => ?_)
  · replace h5 := b2i_0 h5
    refine g_iconst (v := ((-1) : Int32)) X dX6_leads_20 (by decide) rfl ?_
    refine g_retR X hr (by first | rfl | exact b2i_nar _) dX6_leads_21 ?_
    first
    | exact congrArg (fun x => some (Value.int x)) (by unfold leadsS; rw [if_neg (by rw [h5]; exact Bool.false_ne_true)])
    | exact congrArg (fun x => some (Value.int x)) (by unfold leadsS; rw [if_pos h5, nI_clamp (by omega), nI_clamp (by omega)])
  · replace h5 := b2i_n0 h5
    obtain ⟨hgA, hdA⟩ := Bool.and_eq_true_iff.mp h5
    obtain ⟨gq, hgq, rfl⟩ := rng_nI hgA
    obtain ⟨dq, hdq, rfl⟩ := rng_nI hdA
    refine g_aload_n X dX6_leads_8 rfl 0 rfl rfl ?_
    refine gB_get_VisaPages_house X dX6_leads_9 hinX60 hl12 rfl ?_
    refine g_iload_n X dX6_leads_12 rfl 1 rfl rfl ?_
    refine g_iload_n X dX6_leads_13 rfl 2 rfl rfl ?_
    refine g_callVRq (n := 2) (As := [_, _]) (rest := []) X (c_X2_ledBy l D _ _ _ _ gq dq hgq hdq) gX6_leads_X2_ledBy rfl (by decide +kernel) ⟨Nat.le_of_ble_eq_true rfl, Nat.le_of_ble_eq_true rfl⟩ 0 rfl rfl [0, 1, 2, 3, 4, 5, 6, 7, 8, 9, 10, 11, 12, 13, 14, 15, 16] rfl (by decide) rfl rfl (Nat.le_of_ble_eq_true rfl) dX6_leads_14 ⟨Nat.le_of_ble_eq_true rfl, Nat.le_of_ble_eq_true rfl⟩ rfl (fun v hv => ?_)
    obtain rfl := hv
    refine g_st (st' := [_]) rfl ?_
    refine g_goto X dX6_leads_17 21 (by decide) ?_
    refine g_retR X hr (by first | rfl | exact b2i_nar _) dX6_leads_21 ?_
    first
    | exact congrArg (fun x => some (Value.int x)) (by unfold leadsS; rw [if_neg (by rw [h5]; exact Bool.false_ne_true)])
    | exact congrArg (fun x => some (Value.int x)) (by unfold leadsS; rw [if_pos h5, nI_clamp (by omega), nI_clamp (by omega)])

set_option maxHeartbeats 4000000 in
set_option maxRecDepth 100000 in
theorem c_X6_ended (l : Launch) (D : DT) (a : Nat → Nat) (f : Nat → Int32) (na : Nat → Nat → Int32) (w td vl : Nat → Int32) (L pt fl : Nat) (kd : Int32) (kp : Nat) (fq fs : Nat → Option Nat) (tl : va_W) (mk n b : Nat) (hW : WF f mk n b) (hNR : NR f na n) (x : Int32) : MR l yX6_ended wsX6_ended 0 0 D [.ref (a 19), .int x] (wB D a f na w td vl L pt fl kd kp fq fs tl) (fun v => v = some (.int (endedS f x))) := by
  obtain ⟨hmk, h40, hn8, hb0, hb1, hb8, hnb, hst, hno, how, hdo, hs1, hs2, hs3, hZF⟩ := id hW
  have h8 : n ≤ 8 := by omega
  obtain ⟨eN1, eN2, eN3⟩ := hW.N
  refine MR.of (cc := cX6_ended) (maxL := 2) (ret := (some .int)) (lv := [(0, .ref (a 19)), (1, .int x)]) (by decide +kernel) rfl (Nat.le_of_ble_eq_true rfl) rfl ?_
  intro p e s m below meth c A X hr hmn
  have hinX60 : ∀ w ∈ wsX60, w ∈ wsX6_ended := fun w h => List.mem_cons_of_mem _ (List.mem_append_left _ (List.mem_append_right _ h))
  have hinX20 : ∀ w ∈ wsX20, w ∈ wsX6_ended := fun w h => List.mem_cons_of_mem _ (List.mem_append_right _ h)
  have hl12 := List.mem_of_getElem? (l := wsX6_ended) (i := 1) rfl
  have hl209 := List.mem_of_getElem? (l := wsX6_ended) (i := 2) rfl
  refine g_iload_n X dX6_ended_0 rfl 1 rfl rfl ?_
  refine g_if_lt X dX6_ended_1 22 (by decide) rfl (fun h1 => ?_) (fun h1 => ?_)
  · have i1 : _ < (0 : Int) := ic_lt h1
    refine g_bipush (v := ((-2) : Int32)) X dX6_ended_22 (by decide) rfl ?_
    refine g_retR X hr (by first | rfl | exact b2i_nar _) dX6_ended_24 ?_
    first
    | exact congrArg (fun x => some (Value.int x)) (by unfold endedS; rw [if_pos (rng_nI' hq (by omega)), nI_clamp (by omega)])
    | exact congrArg (fun x => some (Value.int x)) (by unfold endedS; rw [if_neg (fun z => by have := of_decide_eq_true z; omega)])
  · have i1 : (0 : Int) ≤ _ := ic_nlt h1
    refine g_iload_n X dX6_ended_4 rfl 1 rfl rfl ?_
    refine g_bipush (v := (7 : Int32)) X dX6_ended_5 (by decide) rfl ?_
    refine g_icmp_ge X dX6_ended_7 22 (by decide) rfl (fun h7 => ?_) (fun h7 => ?_)
    · have i7 : (7 : Int) ≤ _ := ic_le h7
      refine g_bipush (v := ((-2) : Int32)) X dX6_ended_22 (by decide) rfl ?_
      refine g_retR X hr (by first | rfl | exact b2i_nar _) dX6_ended_24 ?_
      first
      | exact congrArg (fun x => some (Value.int x)) (by unfold endedS; rw [if_pos (rng_nI' hq (by omega)), nI_clamp (by omega)])
      | exact congrArg (fun x => some (Value.int x)) (by unfold endedS; rw [if_neg (fun z => by have := of_decide_eq_true z; omega)])
    · have i7 : _ < (7 : Int) := ic_nle h7
      obtain ⟨q, hq, rfl⟩ : ∃ q : Nat, q < 7 ∧ x = nI q := rng_nI (decide_eq_true ⟨by omega, by omega⟩)
      refine g_aload_n X dX6_ended_10 rfl 0 rfl rfl ?_
      refine gB_get_VisaPages_house X dX6_ended_11 hinX60 hl12 rfl ?_
      refine gB_get_House_endings X dX6_ended_14 hinX20 hl209 rfl ?_
      refine g_iload_n X dX6_ended_17 rfl 1 rfl rfl ?_
      refine gB_ld_endings X dX6_ended_18 (by first | rfl | assumption) (by omega) rfl ?_
      refine g_goto X dX6_ended_19 24 (by decide) ?_
      refine g_retR X hr (by first | rfl | exact b2i_nar _) dX6_ended_24 ?_
      first
      | exact congrArg (fun x => some (Value.int x)) (by unfold endedS; rw [if_pos (rng_nI' hq (by omega)), nI_clamp (by omega)])
      | exact congrArg (fun x => some (Value.int x)) (by unfold endedS; rw [if_neg (fun z => by have := of_decide_eq_true z; omega)])

set_option maxHeartbeats 4000000 in
set_option maxRecDepth 100000 in
theorem c_X6_note (l : Launch) (D : DT) (a : Nat → Nat) (f : Nat → Int32) (na : Nat → Nat → Int32) (w td vl : Nat → Int32) (L pt fl : Nat) (kd : Int32) (kp : Nat) (fq fs : Nat → Option Nat) (tl : va_W) (mk n b : Nat) (hW : WF f mk n b) (hNR : NR f na n) (x wh : Int32) : MR l yX6_note wsX6_note 1 21 D [.ref (a 19), .int x, .int wh] (wB D a f na w td vl L pt fl kd kp fq fs tl) (fun v => v = some (.int (noteS f x wh))) := by
  obtain ⟨hmk, h40, hn8, hb0, hb1, hb8, hnb, hst, hno, how, hdo, hs1, hs2, hs3, hZF⟩ := id hW
  have h8 : n ≤ 8 := by omega
  obtain ⟨eN1, eN2, eN3⟩ := hW.N
  refine MR.of (cc := cX6_note) (maxL := 4) (ret := (some .int)) (lv := [(0, .ref (a 19)), (1, .int x), (2, .int wh)]) (by decide +kernel) rfl (Nat.le_of_ble_eq_true rfl) rfl ?_
  intro p e s m below meth c A X hr hmn
  have hinX60 : ∀ w ∈ wsX60, w ∈ wsX6_note := fun w h => List.mem_cons_of_mem _ (List.mem_append_left _ (List.mem_append_left _ (List.mem_append_right _ h)))
  have hinX20 : ∀ w ∈ wsX20, w ∈ wsX6_note := fun w h => List.mem_cons_of_mem _ (List.mem_append_left _ (List.mem_append_right _ h))
  have hinX00 : ∀ w ∈ wsX00, w ∈ wsX6_note := fun w h => List.mem_cons_of_mem _ (List.mem_append_right _ h)
  have hl12 := List.mem_of_getElem? (l := wsX6_note) (i := 1) rfl
  have hl78 := List.mem_of_getElem? (l := wsX6_note) (i := 2) rfl
  have hl165 := List.mem_of_getElem? (l := wsX6_note) (i := 3) rfl
  have hl168 := List.mem_of_getElem? (l := wsX6_note) (i := 4) rfl
  have hl171 := List.mem_of_getElem? (l := wsX6_note) (i := 5) rfl
  have hl174 := List.mem_of_getElem? (l := wsX6_note) (i := 6) rfl
  refine g_aload_n X dX6_note_0 rfl 0 rfl rfl ?_
  refine gB_get_VisaPages_house X dX6_note_1 hinX60 hl12 rfl ?_
  refine gB_get_House_board X dX6_note_4 hinX20 hl78 rfl ?_
  refine g_astore_n X [(3, _), (0, _), (1, _), (2, _)] dX6_note_7 rfl (by decide) rfl rfl ?_
  refine g_aload_n X dX6_note_8 rfl 0 rfl rfl ?_
  refine g_iload_n X dX6_note_9 rfl 2 rfl rfl ?_
  refine g_callVRq (n := 1) (As := [_]) (rest := []) X (c_X0_has l D _ _ _ _ n hn8 h8 _) gX6_note_X0_has rfl (by decide +kernel) ⟨Nat.le_of_ble_eq_true rfl, Nat.le_of_ble_eq_true rfl⟩ 11 rfl rfl [0, 1, 2, 3, 4, 5, 6, 7, 8, 9, 10, 11, 12, 13, 14, 15, 16] rfl (by decide) rfl rfl (Nat.le_of_ble_eq_true rfl) dX6_note_10 ⟨Nat.le_of_ble_eq_true rfl, Nat.le_of_ble_eq_true rfl⟩ rfl (fun v hv => ?_)
  obtain rfl := hv
  refine g_st (st' := [_]) rfl ?_
  refine g_if_ne X dX6_note_13 18 (by decide) rfl (fun h13 => ?_) (fun h13 => ?_)
  · replace h13 := b2i_n0 h13
    obtain ⟨q, hq, rfl⟩ := rng_nI h13
    refine g_iload_n X dX6_note_18 rfl 3 rfl rfl ?_
    refine g_table X dX6_note_19 (fun v : Int => if v = 0 then 48 else if v = 1 then 55 else if v = 2 then 62 else if v = 3 then 69 else 76) (by
        intro v h1 h2
        have hv : v = 0 ∨ v = 1 ∨ v = 2 ∨ v = 3 := by omega
        rcases hv with rfl | rfl | rfl | rfl
        all_goals exact ⟨_, rfl, by decide⟩) 76 (by decide) (fun hl hh => ?_) (fun hd => ?_)
    · have hc : (wh).toInt = 0 ∨ (wh).toInt = 1 ∨ (wh).toInt = 2 ∨ (wh).toInt = 3 := by omega
      rcases hc with hc | hc | hc | hc
      · have ec19 : wh = (0 : Int32) := Int32.toInt_inj.mp hc
        refine g_pc 48 (by rw [hc]; rfl) ?_
        refine g_aload_n X dX6_note_48 rfl 0 rfl rfl ?_
        refine gB_get_Board_guest X dX6_note_49 hinX00 hl165 rfl ?_
        refine g_iload_n X dX6_note_52 rfl 2 rfl rfl ?_
        refine gB_ld_Bo_guest X dX6_note_53 (by first | rfl | assumption) (by omega) rfl ?_
        refine g_topi (hNR _ (by omega) 0 (by decide)) ?_
        refine g_retR X hr (by first | rfl | exact b2i_nar _) dX6_note_54 ?_
        exact congrArg (fun x => some (Value.int x)) (by unfold noteS; rw [eN2, if_pos h13, ec19, if_pos (by decide), nI_clamp (by omega)]; rfl)
      · have ec19 : wh = (1 : Int32) := Int32.toInt_inj.mp hc
        refine g_pc 55 (by rw [hc]; rfl) ?_
        refine g_aload_n X dX6_note_55 rfl 0 rfl rfl ?_
        refine gB_get_Board_door X dX6_note_56 hinX00 hl168 rfl ?_
        refine g_iload_n X dX6_note_59 rfl 2 rfl rfl ?_
        refine gB_ld_Bo_door X dX6_note_60 (by first | rfl | assumption) (by omega) rfl ?_
        refine g_topi (hNR _ (by omega) 1 (by decide)) ?_
        refine g_retR X hr (by first | rfl | exact b2i_nar _) dX6_note_61 ?_
        exact congrArg (fun x => some (Value.int x)) (by unfold noteS; rw [eN2, if_pos h13, ec19, if_pos (by decide), nI_clamp (by omega)]; rfl)
      · have ec19 : wh = (2 : Int32) := Int32.toInt_inj.mp hc
        refine g_pc 62 (by rw [hc]; rfl) ?_
        refine g_aload_n X dX6_note_62 rfl 0 rfl rfl ?_
        refine gB_get_Board_need X dX6_note_63 hinX00 hl171 rfl ?_
        refine g_iload_n X dX6_note_66 rfl 2 rfl rfl ?_
        refine gB_ld_Bo_need X dX6_note_67 (by first | rfl | assumption) (by omega) rfl ?_
        refine g_topi (hNR _ (by omega) 2 (by decide)) ?_
        refine g_retR X hr (by first | rfl | exact b2i_nar _) dX6_note_68 ?_
        exact congrArg (fun x => some (Value.int x)) (by unfold noteS; rw [eN2, if_pos h13, ec19, if_pos (by decide), nI_clamp (by omega)]; rfl)
      · have ec19 : wh = (3 : Int32) := Int32.toInt_inj.mp hc
        refine g_pc 69 (by rw [hc]; rfl) ?_
        refine g_aload_n X dX6_note_69 rfl 0 rfl rfl ?_
        refine gB_get_Board_page X dX6_note_70 hinX00 hl174 rfl ?_
        refine g_iload_n X dX6_note_73 rfl 2 rfl rfl ?_
        refine gB_ld_Bo_page X dX6_note_74 (by first | rfl | assumption) (by omega) rfl ?_
        refine g_topi (hNR _ (by omega) 3 (by decide)) ?_
        refine g_retR X hr (by first | rfl | exact b2i_nar _) dX6_note_75 ?_
        exact congrArg (fun x => some (Value.int x)) (by unfold noteS; rw [eN2, if_pos h13, ec19, if_pos (by decide), nI_clamp (by omega)]; rfl)
    · have ne0 : ¬ wh = (0 : Int32) := fun z => by rw [z] at hd; exact absurd hd (by decide)
      have ne1 : ¬ wh = (1 : Int32) := fun z => by rw [z] at hd; exact absurd hd (by decide)
      have ne2 : ¬ wh = (2 : Int32) := fun z => by rw [z] at hd; exact absurd hd (by decide)
      have ne3 : ¬ wh = (3 : Int32) := fun z => by rw [z] at hd; exact absurd hd (by decide)
      refine g_bipush (v := ((-2) : Int32)) X dX6_note_76 (by decide) rfl ?_
      refine g_retR X hr (by first | rfl | exact b2i_nar _) dX6_note_78 ?_
      exact congrArg (fun x => some (Value.int x)) (by unfold noteS; rw [eN2, if_pos h13, if_neg (fun z => by have := of_decide_eq_true z; omega)])
  · replace h13 := b2i_0 h13
    refine g_iconst (v := ((-1) : Int32)) X dX6_note_16 (by decide) rfl ?_
    refine g_retR X hr (by first | rfl | exact b2i_nar _) dX6_note_17 ?_
    exact congrArg (fun x => some (Value.int x)) (by unfold noteS; rw [eN2, if_neg (by rw [h13]; exact Bool.false_ne_true)])

set_option maxHeartbeats 4000000 in
set_option maxRecDepth 100000 in
theorem c_X6_count (l : Launch) (D : DT) (a : Nat → Nat) (f : Nat → Int32) (na : Nat → Nat → Int32) (w td vl : Nat → Int32) (L pt fl : Nat) (kd : Int32) (kp : Nat) (fq fs : Nat → Option Nat) (tl : va_W) (mk n b : Nat) (hW : WF f mk n b) (hNR : NR f na n) (wh : Int32) : MR l yX6_count wsX6_count 3 72 D [.ref (a 19), .int wh] (wB D a f na w td vl L pt fl kd kp fq fs tl) (fun v => v = some (.int (countS f (nI L) kp wh))) := by
  obtain ⟨hmk, h40, hn8, hb0, hb1, hb8, hnb, hst, hno, how, hdo, hs1, hs2, hs3, hZF⟩ := id hW
  have h8 : n ≤ 8 := by omega
  obtain ⟨eN1, eN2, eN3⟩ := hW.N
  refine MR.of (cc := cX6_count) (maxL := 2) (ret := (some .int)) (lv := [(0, .ref (a 19)), (1, .int wh)]) (by decide +kernel) rfl (Nat.le_of_ble_eq_true rfl) rfl ?_
  intro p e s m below meth c A X hr hmn
  have hinX60 : ∀ w ∈ wsX60, w ∈ wsX6_count := fun w h => List.mem_cons_of_mem _ (List.mem_append_left _ (List.mem_append_left _ (List.mem_append_left _ (List.mem_append_left _ (List.mem_append_left _ (List.mem_append_right _ h))))))
  have hinX20 : ∀ w ∈ wsX20, w ∈ wsX6_count := fun w h => List.mem_cons_of_mem _ (List.mem_append_left _ (List.mem_append_left _ (List.mem_append_left _ (List.mem_append_left _ (List.mem_append_right _ h)))))
  have hinX40 : ∀ w ∈ wsX40, w ∈ wsX6_count := fun w h => List.mem_cons_of_mem _ (List.mem_append_left _ (List.mem_append_left _ (List.mem_append_left _ (List.mem_append_right _ h))))
  have hinX00 : ∀ w ∈ wsX00, w ∈ wsX6_count := fun w h => List.mem_cons_of_mem _ (List.mem_append_left _ (List.mem_append_left _ (List.mem_append_right _ h)))
  have hinX30 : ∀ w ∈ wsX30, w ∈ wsX6_count := fun w h => List.mem_cons_of_mem _ (List.mem_append_left _ (List.mem_append_right _ h))
  have hinX10 : ∀ w ∈ wsX10, w ∈ wsX6_count := fun w h => List.mem_cons_of_mem _ (List.mem_append_right _ h)
  have hl12 := List.mem_of_getElem? (l := wsX6_count) (i := 1) rfl
  have hl107 := List.mem_of_getElem? (l := wsX6_count) (i := 2) rfl
  have hl175 := List.mem_of_getElem? (l := wsX6_count) (i := 3) rfl
  have hl78 := List.mem_of_getElem? (l := wsX6_count) (i := 4) rfl
  have hl179 := List.mem_of_getElem? (l := wsX6_count) (i := 5) rfl
  have hl182 := List.mem_of_getElem? (l := wsX6_count) (i := 6) rfl
  have hl185 := List.mem_of_getElem? (l := wsX6_count) (i := 7) rfl
  have hl188 := List.mem_of_getElem? (l := wsX6_count) (i := 8) rfl
  have hl191 := List.mem_of_getElem? (l := wsX6_count) (i := 9) rfl
  have hl194 := List.mem_of_getElem? (l := wsX6_count) (i := 10) rfl
  have hl197 := List.mem_of_getElem? (l := wsX6_count) (i := 11) rfl
  have hl200 := List.mem_of_getElem? (l := wsX6_count) (i := 12) rfl
  have hl26 := List.mem_of_getElem? (l := wsX6_count) (i := 13) rfl
  have hl203 := List.mem_of_getElem? (l := wsX6_count) (i := 14) rfl
  have hl33 := List.mem_of_getElem? (l := wsX6_count) (i := 15) rfl
  have hl206 := List.mem_of_getElem? (l := wsX6_count) (i := 16) rfl
  refine g_iload_n X dX6_count_0 rfl 1 rfl rfl ?_
  refine g_table X dX6_count_1 (fun v : Int => if v = 0 then 76 else if v = 1 then 87 else if v = 2 then 100 else if v = 3 then 111 else if v = 4 then 119 else if v = 5 then 127 else if v = 6 then 135 else if v = 7 then 143 else if v = 8 then 154 else if v = 9 then 165 else if v = 10 then 175 else if v = 11 then 185 else if v = 12 then 195 else if v = 13 then 205 else if v = 14 then 213 else 221) (by
      intro v h1 h2
      have hv : v = 0 ∨ v = 1 ∨ v = 2 ∨ v = 3 ∨ v = 4 ∨ v = 5 ∨ v = 6 ∨ v = 7 ∨ v = 8 ∨ v = 9 ∨ v = 10 ∨ v = 11 ∨ v = 12 ∨ v = 13 ∨ v = 14 := by omega
      rcases hv with rfl | rfl | rfl | rfl | rfl | rfl | rfl | rfl | rfl | rfl | rfl | rfl | rfl | rfl | rfl
      all_goals exact ⟨_, rfl, by decide⟩) 221 (by decide) (fun hl hh => ?_) (fun hd => ?_)
  · have hc : (wh).toInt = 0 ∨ (wh).toInt = 1 ∨ (wh).toInt = 2 ∨ (wh).toInt = 3 ∨ (wh).toInt = 4 ∨ (wh).toInt = 5 ∨ (wh).toInt = 6 ∨ (wh).toInt = 7 ∨ (wh).toInt = 8 ∨ (wh).toInt = 9 ∨ (wh).toInt = 10 ∨ (wh).toInt = 11 ∨ (wh).toInt = 12 ∨ (wh).toInt = 13 ∨ (wh).toInt = 14 := by omega
    rcases hc with hc | hc | hc | hc | hc | hc | hc | hc | hc | hc | hc | hc | hc | hc | hc
    · have ec1 : wh = (0 : Int32) := Int32.toInt_inj.mp hc
      refine g_pc 76 (by rw [hc]; rfl) ?_
      refine g_aload_n X dX6_count_76 rfl 0 rfl rfl ?_
      refine gB_get_VisaPages_house X dX6_count_77 hinX60 hl12 rfl ?_
      refine gB_get_House_stamps X dX6_count_80 hinX20 hl107 rfl ?_
      refine gB_get_Stamps_made X dX6_count_83 hinX40 hl175 rfl ?_
      refine g_topi (show _ = nI (mk) from hmk) ?_
      refine g_retR X hr (by first | rfl | exact b2i_nar _) dX6_count_86 ?_
      exact congrArg (fun x => some (Value.int x)) (by unfold countS; rw [if_pos ec1]; exact hmk.symm)
    · have ec1 : wh = (1 : Int32) := Int32.toInt_inj.mp hc
      refine g_pc 87 (by rw [hc]; rfl) ?_
      refine g_aload_n X dX6_count_87 rfl 0 rfl rfl ?_
      refine gB_get_VisaPages_house X dX6_count_88 hinX60 hl12 rfl ?_
      refine g_bipush (v := ((-6) : Int32)) X dX6_count_91 (by decide) rfl ?_
      refine g_callVRq (n := 1) (As := [_]) (rest := []) X (c_X2_goodStamps l D _ _ _ _ mk hmk h40 hst how _ (Or.inl rfl)) gX6_count_X2_goodStamps rfl (by decide +kernel) ⟨Nat.le_of_ble_eq_true rfl, Nat.le_of_ble_eq_true rfl⟩ 0 rfl rfl [0, 1, 2, 3, 4, 5, 6, 7, 8, 9, 10, 11, 12, 13, 14, 15, 16] rfl (by decide) rfl rfl (Nat.le_of_ble_eq_true rfl) dX6_count_93 ⟨Nat.le_of_ble_eq_true rfl, Nat.le_of_ble_eq_true rfl⟩ rfl (fun v hv => ?_)
      obtain rfl := hv
      refine g_st (st' := [_]) rfl ?_
      rw [fW_6]
      refine g_callSR (n := 1) (As := [_]) (rest := []) X (c_J13_bitCount_95d88 l D (mskN (gd f) mk) (msk64 (by omega))) gX6_count_J13_bitCount_95d88 rfl (by decide +kernel) ⟨Nat.le_of_ble_eq_true rfl, Nat.le_of_ble_eq_true rfl⟩ [] rfl rfl rfl rfl (Nat.le_of_ble_eq_true rfl) dX6_count_96 ⟨Nat.le_of_ble_eq_true rfl, Nat.le_of_ble_eq_true rfl⟩ rfl (fun v hv => ?_)
      obtain rfl := hv
      refine g_st (st' := [_]) rfl ?_
      refine g_retR X hr (by first | rfl | exact b2i_nar _) dX6_count_99 ?_
      exact congrArg (fun x => some (Value.int x)) (by unfold countS; rw [if_neg (by rw [ec1]; decide), if_pos ec1]; rw [eN1, cnI_msk (by omega)])
    · have ec1 : wh = (2 : Int32) := Int32.toInt_inj.mp hc
      refine g_pc 100 (by rw [hc]; rfl) ?_
      refine g_aload_n X dX6_count_100 rfl 0 rfl rfl ?_
      refine gB_get_VisaPages_house X dX6_count_101 hinX60 hl12 rfl ?_
      refine gB_get_House_board X dX6_count_104 hinX20 hl78 rfl ?_
      refine gB_get_Board_size X dX6_count_107 hinX00 hl179 rfl ?_
      refine g_topi (show _ = nI (n) from hn8) ?_
      refine g_retR X hr (by first | rfl | exact b2i_nar _) dX6_count_110 ?_
      exact congrArg (fun x => some (Value.int x)) (by unfold countS; rw [if_neg (by rw [ec1]; decide), if_neg (by rw [ec1]; decide), if_pos ec1]; exact hn8.symm)
    · have ec1 : wh = (3 : Int32) := Int32.toInt_inj.mp hc
      refine g_pc 111 (by rw [hc]; rfl) ?_
      refine g_aload_n X dX6_count_111 rfl 0 rfl rfl ?_
      refine gB_get_VisaPages_house X dX6_count_112 hinX60 hl12 rfl ?_
      refine gB_get_House_inside X dX6_count_115 hinX20 hl182 rfl ?_
      refine g_retR X hr (by first | rfl | exact b2i_nar _) dX6_count_118 ?_
      exact congrArg (fun x => some (Value.int x)) (by unfold countS; rw [if_neg (by rw [ec1]; decide), if_neg (by rw [ec1]; decide), if_neg (by rw [ec1]; decide), if_pos ec1])
    · have ec1 : wh = (4 : Int32) := Int32.toInt_inj.mp hc
      refine g_pc 119 (by rw [hc]; rfl) ?_
      refine g_aload_n X dX6_count_119 rfl 0 rfl rfl ?_
      refine gB_get_VisaPages_house X dX6_count_120 hinX60 hl12 rfl ?_
      refine gB_get_House_visits X dX6_count_123 hinX20 hl185 rfl ?_
      refine g_retR X hr (by first | rfl | exact b2i_nar _) dX6_count_126 ?_
      exact congrArg (fun x => some (Value.int x)) (by unfold countS; rw [if_neg (by rw [ec1]; decide), if_neg (by rw [ec1]; decide), if_neg (by rw [ec1]; decide), if_neg (by rw [ec1]; decide), if_pos ec1])
    · have ec1 : wh = (5 : Int32) := Int32.toInt_inj.mp hc
      refine g_pc 127 (by rw [hc]; rfl) ?_
      refine g_aload_n X dX6_count_127 rfl 0 rfl rfl ?_
      refine gB_get_VisaPages_house X dX6_count_128 hinX60 hl12 rfl ?_
      refine gB_get_House_helped X dX6_count_131 hinX20 hl188 rfl ?_
      refine g_retR X hr (by first | rfl | exact b2i_nar _) dX6_count_134 ?_
      exact congrArg (fun x => some (Value.int x)) (by unfold countS; rw [if_neg (by rw [ec1]; decide), if_neg (by rw [ec1]; decide), if_neg (by rw [ec1]; decide), if_neg (by rw [ec1]; decide), if_neg (by rw [ec1]; decide), if_pos ec1])
    · have ec1 : wh = (6 : Int32) := Int32.toInt_inj.mp hc
      refine g_pc 135 (by rw [hc]; rfl) ?_
      refine g_aload_n X dX6_count_135 rfl 0 rfl rfl ?_
      refine gB_get_VisaPages_house X dX6_count_136 hinX60 hl12 rfl ?_
      refine gB_get_House_steps X dX6_count_139 hinX20 hl191 rfl ?_
      refine g_retR X hr (by first | rfl | exact b2i_nar _) dX6_count_142 ?_
      exact congrArg (fun x => some (Value.int x)) (by unfold countS; rw [if_neg (by rw [ec1]; decide), if_neg (by rw [ec1]; decide), if_neg (by rw [ec1]; decide), if_neg (by rw [ec1]; decide), if_neg (by rw [ec1]; decide), if_neg (by rw [ec1]; decide), if_pos ec1])
    · have ec1 : wh = (7 : Int32) := Int32.toInt_inj.mp hc
      refine g_pc 143 (by rw [hc]; rfl) ?_
      refine g_aload_n X dX6_count_143 rfl 0 rfl rfl ?_
      refine gB_get_VisaPages_house X dX6_count_144 hinX60 hl12 rfl ?_
      refine gB_get_House_board X dX6_count_147 hinX20 hl78 rfl ?_
      refine gB_get_Board_wiped X dX6_count_150 hinX00 hl194 rfl ?_
      refine g_retR X hr (by first | rfl | exact b2i_nar _) dX6_count_153 ?_
      exact congrArg (fun x => some (Value.int x)) (by unfold countS; rw [if_neg (by rw [ec1]; decide), if_neg (by rw [ec1]; decide), if_neg (by rw [ec1]; decide), if_neg (by rw [ec1]; decide), if_neg (by rw [ec1]; decide), if_neg (by rw [ec1]; decide), if_neg (by rw [ec1]; decide), if_pos ec1])
    · have ec1 : wh = (8 : Int32) := Int32.toInt_inj.mp hc
      refine g_pc 154 (by rw [hc]; rfl) ?_
      refine g_aload_n X dX6_count_154 rfl 0 rfl rfl ?_
      refine gB_get_VisaPages_house X dX6_count_155 hinX60 hl12 rfl ?_
      refine gB_get_House_board X dX6_count_158 hinX20 hl78 rfl ?_
      refine gB_get_Board_dropped X dX6_count_161 hinX00 hl197 rfl ?_
      refine g_retR X hr (by first | rfl | exact b2i_nar _) dX6_count_164 ?_
      exact congrArg (fun x => some (Value.int x)) (by unfold countS; rw [if_neg (by rw [ec1]; decide), if_neg (by rw [ec1]; decide), if_neg (by rw [ec1]; decide), if_neg (by rw [ec1]; decide), if_neg (by rw [ec1]; decide), if_neg (by rw [ec1]; decide), if_neg (by rw [ec1]; decide), if_neg (by rw [ec1]; decide), if_pos ec1])
    · have ec1 : wh = (9 : Int32) := Int32.toInt_inj.mp hc
      refine g_pc 165 (by rw [hc]; rfl) ?_
      refine g_aload_n X dX6_count_165 rfl 0 rfl rfl ?_
      refine gB_get_VisaPages_house X dX6_count_166 hinX60 hl12 rfl ?_
      refine gB_get_House_settings X dX6_count_169 hinX20 hl200 rfl ?_
      refine g_iconst (v := (0 : Int32)) X dX6_count_172 (by decide) rfl ?_
      refine gB_ld_settings X dX6_count_173 (k := 0) rfl (by decide) rfl ?_
      refine g_retR X hr (by first | rfl | exact b2i_nar _) dX6_count_174 ?_
      exact congrArg (fun x => some (Value.int x)) (by unfold countS; rw [if_neg (by rw [ec1]; decide), if_neg (by rw [ec1]; decide), if_neg (by rw [ec1]; decide), if_neg (by rw [ec1]; decide), if_neg (by rw [ec1]; decide), if_neg (by rw [ec1]; decide), if_neg (by rw [ec1]; decide), if_neg (by rw [ec1]; decide), if_neg (by rw [ec1]; decide), if_pos ec1])
    · have ec1 : wh = (10 : Int32) := Int32.toInt_inj.mp hc
      refine g_pc 175 (by rw [hc]; rfl) ?_
      refine g_aload_n X dX6_count_175 rfl 0 rfl rfl ?_
      refine gB_get_VisaPages_house X dX6_count_176 hinX60 hl12 rfl ?_
      refine gB_get_House_settings X dX6_count_179 hinX20 hl200 rfl ?_
      refine g_iconst (v := (1 : Int32)) X dX6_count_182 (by decide) rfl ?_
      refine gB_ld_settings X dX6_count_183 (k := 1) rfl (by decide) rfl ?_
      refine g_retR X hr (by first | rfl | exact b2i_nar _) dX6_count_184 ?_
      exact congrArg (fun x => some (Value.int x)) (by unfold countS; rw [if_neg (by rw [ec1]; decide), if_neg (by rw [ec1]; decide), if_neg (by rw [ec1]; decide), if_neg (by rw [ec1]; decide), if_neg (by rw [ec1]; decide), if_neg (by rw [ec1]; decide), if_neg (by rw [ec1]; decide), if_neg (by rw [ec1]; decide), if_neg (by rw [ec1]; decide), if_neg (by rw [ec1]; decide), if_pos ec1])
    · have ec1 : wh = (11 : Int32) := Int32.toInt_inj.mp hc
      refine g_pc 185 (by rw [hc]; rfl) ?_
      refine g_aload_n X dX6_count_185 rfl 0 rfl rfl ?_
      refine gB_get_VisaPages_house X dX6_count_186 hinX60 hl12 rfl ?_
      refine gB_get_House_settings X dX6_count_189 hinX20 hl200 rfl ?_
      refine g_iconst (v := (2 : Int32)) X dX6_count_192 (by decide) rfl ?_
      refine gB_ld_settings X dX6_count_193 (k := 2) rfl (by decide) rfl ?_
      refine g_retR X hr (by first | rfl | exact b2i_nar _) dX6_count_194 ?_
      exact congrArg (fun x => some (Value.int x)) (by unfold countS; rw [if_neg (by rw [ec1]; decide), if_neg (by rw [ec1]; decide), if_neg (by rw [ec1]; decide), if_neg (by rw [ec1]; decide), if_neg (by rw [ec1]; decide), if_neg (by rw [ec1]; decide), if_neg (by rw [ec1]; decide), if_neg (by rw [ec1]; decide), if_neg (by rw [ec1]; decide), if_neg (by rw [ec1]; decide), if_neg (by rw [ec1]; decide), if_pos ec1])
    · have ec1 : wh = (12 : Int32) := Int32.toInt_inj.mp hc
      refine g_pc 195 (by rw [hc]; rfl) ?_
      refine g_aload_n X dX6_count_195 rfl 0 rfl rfl ?_
      refine gB_get_VisaPages_house X dX6_count_196 hinX60 hl12 rfl ?_
      refine gB_get_House_settings X dX6_count_199 hinX20 hl200 rfl ?_
      refine g_iconst (v := (3 : Int32)) X dX6_count_202 (by decide) rfl ?_
      refine gB_ld_settings X dX6_count_203 (k := 3) rfl (by decide) rfl ?_
      refine g_retR X hr (by first | rfl | exact b2i_nar _) dX6_count_204 ?_
      exact congrArg (fun x => some (Value.int x)) (by unfold countS; rw [if_neg (by rw [ec1]; decide), if_neg (by rw [ec1]; decide), if_neg (by rw [ec1]; decide), if_neg (by rw [ec1]; decide), if_neg (by rw [ec1]; decide), if_neg (by rw [ec1]; decide), if_neg (by rw [ec1]; decide), if_neg (by rw [ec1]; decide), if_neg (by rw [ec1]; decide), if_neg (by rw [ec1]; decide), if_neg (by rw [ec1]; decide), if_neg (by rw [ec1]; decide), if_pos ec1])
    · have ec1 : wh = (13 : Int32) := Int32.toInt_inj.mp hc
      refine g_pc 205 (by rw [hc]; rfl) ?_
      refine g_aload_n X dX6_count_205 rfl 0 rfl rfl ?_
      refine gB_get_VisaPages_pad X dX6_count_206 hinX60 hl26 rfl ?_
      refine gB_get_Pad_length X dX6_count_209 hinX30 hl203 rfl ?_
      refine g_retR X hr (by first | rfl | exact b2i_nar _) dX6_count_212 ?_
      exact congrArg (fun x => some (Value.int x)) (by unfold countS; rw [if_neg (by rw [ec1]; decide), if_neg (by rw [ec1]; decide), if_neg (by rw [ec1]; decide), if_neg (by rw [ec1]; decide), if_neg (by rw [ec1]; decide), if_neg (by rw [ec1]; decide), if_neg (by rw [ec1]; decide), if_neg (by rw [ec1]; decide), if_neg (by rw [ec1]; decide), if_neg (by rw [ec1]; decide), if_neg (by rw [ec1]; decide), if_neg (by rw [ec1]; decide), if_neg (by rw [ec1]; decide), if_pos ec1])
    · have ec1 : wh = (14 : Int32) := Int32.toInt_inj.mp hc
      refine g_pc 213 (by rw [hc]; rfl) ?_
      refine g_aload_n X dX6_count_213 rfl 0 rfl rfl ?_
      refine gB_get_VisaPages_history X dX6_count_214 hinX60 hl33 rfl ?_
      refine gB_get_History_kept X dX6_count_217 hinX10 hl206 rfl ?_
      refine g_retR X hr (by first | rfl | exact b2i_nar _) dX6_count_220 ?_
      exact congrArg (fun x => some (Value.int x)) (by unfold countS; rw [if_neg (by rw [ec1]; decide), if_neg (by rw [ec1]; decide), if_neg (by rw [ec1]; decide), if_neg (by rw [ec1]; decide), if_neg (by rw [ec1]; decide), if_neg (by rw [ec1]; decide), if_neg (by rw [ec1]; decide), if_neg (by rw [ec1]; decide), if_neg (by rw [ec1]; decide), if_neg (by rw [ec1]; decide), if_neg (by rw [ec1]; decide), if_neg (by rw [ec1]; decide), if_neg (by rw [ec1]; decide), if_neg (by rw [ec1]; decide), if_pos ec1])
  · have ne0 : ¬ wh = (0 : Int32) := fun z => by rw [z] at hd; exact absurd hd (by decide)
    have ne1 : ¬ wh = (1 : Int32) := fun z => by rw [z] at hd; exact absurd hd (by decide)
    have ne2 : ¬ wh = (2 : Int32) := fun z => by rw [z] at hd; exact absurd hd (by decide)
    have ne3 : ¬ wh = (3 : Int32) := fun z => by rw [z] at hd; exact absurd hd (by decide)
    have ne4 : ¬ wh = (4 : Int32) := fun z => by rw [z] at hd; exact absurd hd (by decide)
    have ne5 : ¬ wh = (5 : Int32) := fun z => by rw [z] at hd; exact absurd hd (by decide)
    have ne6 : ¬ wh = (6 : Int32) := fun z => by rw [z] at hd; exact absurd hd (by decide)
    have ne7 : ¬ wh = (7 : Int32) := fun z => by rw [z] at hd; exact absurd hd (by decide)
    have ne8 : ¬ wh = (8 : Int32) := fun z => by rw [z] at hd; exact absurd hd (by decide)
    have ne9 : ¬ wh = (9 : Int32) := fun z => by rw [z] at hd; exact absurd hd (by decide)
    have ne10 : ¬ wh = (10 : Int32) := fun z => by rw [z] at hd; exact absurd hd (by decide)
    have ne11 : ¬ wh = (11 : Int32) := fun z => by rw [z] at hd; exact absurd hd (by decide)
    have ne12 : ¬ wh = (12 : Int32) := fun z => by rw [z] at hd; exact absurd hd (by decide)
    have ne13 : ¬ wh = (13 : Int32) := fun z => by rw [z] at hd; exact absurd hd (by decide)
    have ne14 : ¬ wh = (14 : Int32) := fun z => by rw [z] at hd; exact absurd hd (by decide)
    refine g_bipush (v := ((-2) : Int32)) X dX6_count_221 (by decide) rfl ?_
    refine g_retR X hr (by first | rfl | exact b2i_nar _) dX6_count_223 ?_
    exact congrArg (fun x => some (Value.int x)) (by unfold countS; rw [if_neg ne0, if_neg ne1, if_neg ne2, if_neg ne3, if_neg ne4, if_neg ne5, if_neg ne6, if_neg ne7, if_neg ne8, if_neg ne9, if_neg ne10, if_neg ne11, if_neg ne12, if_neg ne13, if_neg ne14])

set_option maxHeartbeats 4000000 in
set_option maxRecDepth 100000 in
theorem c_X6_ofPage (l : Launch) (D : DT) (a : Nat → Nat) (f : Nat → Int32) (na : Nat → Nat → Int32) (w td vl : Nat → Int32) (L pt fl : Nat) (kd : Int32) (kp : Nat) (fq fs : Nat → Option Nat) (tl : va_W) (mk n b : Nat) (hW : WF f mk n b) (hNR : NR f na n) (x wh : Int32) : MR l yX6_ofPage wsX6_ofPage 3 72 D [.ref (a 19), .int x, .int wh] (wB D a f na w td vl L pt fl kd kp fq fs tl) (fun v => v = some (.int (ofPageS f x wh))) := by
  obtain ⟨hmk, h40, hn8, hb0, hb1, hb8, hnb, hst, hno, how, hdo, hs1, hs2, hs3, hZF⟩ := id hW
  have h8 : n ≤ 8 := by omega
  obtain ⟨eN1, eN2, eN3⟩ := hW.N
  refine MR.of (cc := cX6_ofPage) (maxL := 3) (ret := (some .int)) (lv := [(0, .ref (a 19)), (1, .int x), (2, .int wh)]) (by decide +kernel) rfl (Nat.le_of_ble_eq_true rfl) rfl ?_
  intro p e s m below meth c A X hr hmn
  have hinX60 : ∀ w ∈ wsX60, w ∈ wsX6_ofPage := fun w h => List.mem_cons_of_mem _ (List.mem_append_left _ (List.mem_append_left _ (List.mem_append_right _ h)))
  have hinX20 : ∀ w ∈ wsX20, w ∈ wsX6_ofPage := fun w h => List.mem_cons_of_mem _ (List.mem_append_left _ (List.mem_append_right _ h))
  have hinX40 : ∀ w ∈ wsX40, w ∈ wsX6_ofPage := fun w h => List.mem_cons_of_mem _ (List.mem_append_right _ h)
  have hl12 := List.mem_of_getElem? (l := wsX6_ofPage) (i := 1) rfl
  have hl95 := List.mem_of_getElem? (l := wsX6_ofPage) (i := 2) rfl
  have hl107 := List.mem_of_getElem? (l := wsX6_ofPage) (i := 3) rfl
  refine g_iload_n X dX6_ofPage_0 rfl 1 rfl rfl ?_
  refine g_callSR (n := 1) (As := [_]) (rest := []) X (c_X6_isPage l D _) gX6_ofPage_X6_isPage rfl (by decide +kernel) ⟨Nat.le_of_ble_eq_true rfl, Nat.le_of_ble_eq_true rfl⟩ [] rfl rfl rfl rfl (Nat.le_of_ble_eq_true rfl) dX6_ofPage_1 ⟨Nat.le_of_ble_eq_true rfl, Nat.le_of_ble_eq_true rfl⟩ rfl (fun v hv => ?_)
  obtain rfl := hv
  refine g_st (st' := [_]) rfl ?_
  refine g_if_ne X dX6_ofPage_4 9 (by decide) rfl (fun h4 => ?_) (fun h4 => ?_)
  · replace h4 := b2i_n0 h4
    obtain ⟨q, hq, rfl⟩ := rng_nI h4
    refine g_iload_n X dX6_ofPage_9 rfl 2 rfl rfl ?_
    refine g_table X dX6_ofPage_10 (fun v : Int => if v = 0 then 40 else if v = 1 then 50 else if v = 2 then 69 else if v = 3 then 88 else 113) (by
        intro v h1 h2
        have hv : v = 0 ∨ v = 1 ∨ v = 2 ∨ v = 3 := by omega
        rcases hv with rfl | rfl | rfl | rfl
        all_goals exact ⟨_, rfl, by decide⟩) 113 (by decide) (fun hl hh => ?_) (fun hd => ?_)
    · have hc : (wh).toInt = 0 ∨ (wh).toInt = 1 ∨ (wh).toInt = 2 ∨ (wh).toInt = 3 := by omega
      rcases hc with hc | hc | hc | hc
      · have ec10 : wh = (0 : Int32) := Int32.toInt_inj.mp hc
        refine g_pc 40 (by rw [hc]; rfl) ?_
        refine g_aload_n X dX6_ofPage_40 rfl 0 rfl rfl ?_
        refine gB_get_VisaPages_house X dX6_ofPage_41 hinX60 hl12 rfl ?_
        refine gB_get_House_owners X dX6_ofPage_44 hinX20 hl95 rfl ?_
        refine g_iload_n X dX6_ofPage_47 rfl 1 rfl rfl ?_
        refine gB_ld_owners X dX6_ofPage_48 (by first | rfl | assumption) (by omega) rfl ?_
        refine g_retR X hr (by first | rfl | exact b2i_nar _) dX6_ofPage_49 ?_
        exact congrArg (fun x => some (Value.int x)) (by unfold ofPageS; rw [if_pos h4, if_pos ec10, nI_clamp (by omega)])
      · have ec10 : wh = (1 : Int32) := Int32.toInt_inj.mp hc
        refine g_pc 50 (by rw [hc]; rfl) ?_
        refine g_aload_n X dX6_ofPage_50 rfl 0 rfl rfl ?_
        refine gB_get_VisaPages_house X dX6_ofPage_51 hinX60 hl12 rfl ?_
        refine g_iload_n X dX6_ofPage_54 rfl 1 rfl rfl ?_
        refine g_iconst (v := (1 : Int32)) X dX6_ofPage_55 (by decide) rfl ?_
        refine g_aload_n X dX6_ofPage_56 rfl 0 rfl rfl ?_
        refine gB_get_VisaPages_house X dX6_ofPage_57 hinX60 hl12 rfl ?_
        refine g_bipush (v := ((-6) : Int32)) X dX6_ofPage_60 (by decide) rfl ?_
        refine g_callVRq (n := 1) (As := [_]) (rest := [_, _, _]) X (c_X2_goodStamps l D _ _ _ _ mk hmk h40 hst how _ (Or.inl rfl)) gX6_ofPage_X2_goodStamps rfl (by decide +kernel) ⟨Nat.le_of_ble_eq_true rfl, Nat.le_of_ble_eq_true rfl⟩ 0 rfl rfl [0, 1, 2, 3, 4, 5, 6, 7, 8, 9, 10, 11, 12, 13, 14, 15, 16] rfl (by decide) rfl rfl (Nat.le_of_ble_eq_true rfl) dX6_ofPage_62 ⟨Nat.le_of_ble_eq_true rfl, Nat.le_of_ble_eq_true rfl⟩ rfl (fun v hv => ?_)
        obtain rfl := hv
        refine g_st (st' := [_, _, _, _]) rfl ?_
        rw [fW_6]
        refine g_callVRq (n := 3) (As := [_, _, _]) (rest := []) X (c_X2_guestsWith l D _ _ _ _ mk hmk h40 hst how q hq 1 (gd f)) gX6_ofPage_X2_guestsWith rfl (by decide +kernel) ⟨Nat.le_of_ble_eq_true rfl, Nat.le_of_ble_eq_true rfl⟩ 0 rfl rfl [0, 1, 2, 3, 4, 5, 6, 7, 8, 9, 10, 11, 12, 13, 14, 15, 16] rfl (by decide) rfl rfl (Nat.le_of_ble_eq_true rfl) dX6_ofPage_65 ⟨Nat.le_of_ble_eq_true rfl, Nat.le_of_ble_eq_true rfl⟩ rfl (fun v hv => ?_)
        obtain rfl := hv
        refine g_st (st' := [_]) rfl ?_
        refine g_retR X hr (by first | rfl | exact b2i_nar _) dX6_ofPage_68 ?_
        exact congrArg (fun x => some (Value.int x)) (by unfold ofPageS; rw [if_pos h4, if_neg (by rw [ec10]; decide), if_pos ec10, nI_clamp (by omega), eN1])
      · have ec10 : wh = (2 : Int32) := Int32.toInt_inj.mp hc
        refine g_pc 69 (by rw [hc]; rfl) ?_
        refine g_aload_n X dX6_ofPage_69 rfl 0 rfl rfl ?_
        refine gB_get_VisaPages_house X dX6_ofPage_70 hinX60 hl12 rfl ?_
        refine g_iload_n X dX6_ofPage_73 rfl 1 rfl rfl ?_
        refine g_iconst (v := (2 : Int32)) X dX6_ofPage_74 (by decide) rfl ?_
        refine g_aload_n X dX6_ofPage_75 rfl 0 rfl rfl ?_
        refine gB_get_VisaPages_house X dX6_ofPage_76 hinX60 hl12 rfl ?_
        refine g_bipush (v := ((-6) : Int32)) X dX6_ofPage_79 (by decide) rfl ?_
        refine g_callVRq (n := 1) (As := [_]) (rest := [_, _, _]) X (c_X2_goodStamps l D _ _ _ _ mk hmk h40 hst how _ (Or.inl rfl)) gX6_ofPage_X2_goodStamps rfl (by decide +kernel) ⟨Nat.le_of_ble_eq_true rfl, Nat.le_of_ble_eq_true rfl⟩ 0 rfl rfl [0, 1, 2, 3, 4, 5, 6, 7, 8, 9, 10, 11, 12, 13, 14, 15, 16] rfl (by decide) rfl rfl (Nat.le_of_ble_eq_true rfl) dX6_ofPage_81 ⟨Nat.le_of_ble_eq_true rfl, Nat.le_of_ble_eq_true rfl⟩ rfl (fun v hv => ?_)
        obtain rfl := hv
        refine g_st (st' := [_, _, _, _]) rfl ?_
        rw [fW_6]
        refine g_callVRq (n := 3) (As := [_, _, _]) (rest := []) X (c_X2_guestsWith l D _ _ _ _ mk hmk h40 hst how q hq 2 (gd f)) gX6_ofPage_X2_guestsWith rfl (by decide +kernel) ⟨Nat.le_of_ble_eq_true rfl, Nat.le_of_ble_eq_true rfl⟩ 0 rfl rfl [0, 1, 2, 3, 4, 5, 6, 7, 8, 9, 10, 11, 12, 13, 14, 15, 16] rfl (by decide) rfl rfl (Nat.le_of_ble_eq_true rfl) dX6_ofPage_84 ⟨Nat.le_of_ble_eq_true rfl, Nat.le_of_ble_eq_true rfl⟩ rfl (fun v hv => ?_)
        obtain rfl := hv
        refine g_st (st' := [_]) rfl ?_
        refine g_retR X hr (by first | rfl | exact b2i_nar _) dX6_ofPage_87 ?_
        exact congrArg (fun x => some (Value.int x)) (by unfold ofPageS; rw [if_pos h4, if_neg (by rw [ec10]; decide), if_neg (by rw [ec10]; decide), if_pos ec10, nI_clamp (by omega), eN1])
      · have ec10 : wh = (3 : Int32) := Int32.toInt_inj.mp hc
        refine g_pc 88 (by rw [hc]; rfl) ?_
        refine g_aload_n X dX6_ofPage_88 rfl 0 rfl rfl ?_
        refine gB_get_VisaPages_house X dX6_ofPage_89 hinX60 hl12 rfl ?_
        refine g_bipush (v := ((-6) : Int32)) X dX6_ofPage_92 (by decide) rfl ?_
        refine g_callVRq (n := 1) (As := [_]) (rest := []) X (c_X2_goodStamps l D _ _ _ _ mk hmk h40 hst how _ (Or.inl rfl)) gX6_ofPage_X2_goodStamps rfl (by decide +kernel) ⟨Nat.le_of_ble_eq_true rfl, Nat.le_of_ble_eq_true rfl⟩ 0 rfl rfl [0, 1, 2, 3, 4, 5, 6, 7, 8, 9, 10, 11, 12, 13, 14, 15, 16] rfl (by decide) rfl rfl (Nat.le_of_ble_eq_true rfl) dX6_ofPage_94 ⟨Nat.le_of_ble_eq_true rfl, Nat.le_of_ble_eq_true rfl⟩ rfl (fun v hv => ?_)
        obtain rfl := hv
        refine g_st (st' := [_]) rfl ?_
        rw [fW_6]
        refine g_aload_n X dX6_ofPage_97 rfl 0 rfl rfl ?_
        refine gB_get_VisaPages_house X dX6_ofPage_98 hinX60 hl12 rfl ?_
        refine gB_get_House_stamps X dX6_ofPage_101 hinX20 hl107 rfl ?_
        refine g_iload_n X dX6_ofPage_104 rfl 1 rfl rfl ?_
        refine g_callVRq (n := 1) (As := [_]) (rest := [_]) X (c_X4_ofOnePage l D _ _ _ _ mk hmk h40 _) gX6_ofPage_X4_ofOnePage rfl (by decide +kernel) ⟨Nat.le_of_ble_eq_true rfl, Nat.le_of_ble_eq_true rfl⟩ 5 rfl rfl [0, 1, 2, 3, 4, 5, 6, 7, 8, 9, 10, 11, 12, 13, 14, 15, 16] rfl (by decide) rfl rfl (Nat.le_of_ble_eq_true rfl) dX6_ofPage_105 ⟨Nat.le_of_ble_eq_true rfl, Nat.le_of_ble_eq_true rfl⟩ rfl (fun v hv => ?_)
        obtain rfl := hv
        refine g_st (st' := [_, _]) rfl ?_
        refine g_land X dX6_ofPage_108 rfl ?_
        refine g_topl (msk_and (by omega)) ?_
        refine g_callSR (n := 1) (As := [_]) (rest := []) X (c_J13_bitCount_95d88 l D (mskN (fun s => gd f s && decide (ofM f s 0 = nI q)) mk) (msk64 (by omega))) gX6_ofPage_J13_bitCount_95d88 rfl (by decide +kernel) ⟨Nat.le_of_ble_eq_true rfl, Nat.le_of_ble_eq_true rfl⟩ [] rfl rfl rfl rfl (Nat.le_of_ble_eq_true rfl) dX6_ofPage_109 ⟨Nat.le_of_ble_eq_true rfl, Nat.le_of_ble_eq_true rfl⟩ rfl (fun v hv => ?_)
        obtain rfl := hv
        refine g_st (st' := [_]) rfl ?_
        refine g_retR X hr (by first | rfl | exact b2i_nar _) dX6_ofPage_112 ?_
        exact congrArg (fun x => some (Value.int x)) (by unfold ofPageS; rw [if_pos h4, if_neg (by rw [ec10]; decide), if_neg (by rw [ec10]; decide), if_neg (by rw [ec10]; decide), if_pos ec10, eN1, cnI_msk (by omega)])
    · have ne0 : ¬ wh = (0 : Int32) := fun z => by rw [z] at hd; exact absurd hd (by decide)
      have ne1 : ¬ wh = (1 : Int32) := fun z => by rw [z] at hd; exact absurd hd (by decide)
      have ne2 : ¬ wh = (2 : Int32) := fun z => by rw [z] at hd; exact absurd hd (by decide)
      have ne3 : ¬ wh = (3 : Int32) := fun z => by rw [z] at hd; exact absurd hd (by decide)
      refine g_bipush (v := ((-2) : Int32)) X dX6_ofPage_113 (by decide) rfl ?_
      refine g_retR X hr (by first | rfl | exact b2i_nar _) dX6_ofPage_115 ?_
      exact congrArg (fun x => some (Value.int x)) (by unfold ofPageS; rw [if_pos h4, if_neg ne0, if_neg ne1, if_neg ne2, if_neg ne3])
  · replace h4 := b2i_0 h4
    refine g_iconst (v := ((-1) : Int32)) X dX6_ofPage_7 (by decide) rfl ?_
    refine g_retR X hr (by first | rfl | exact b2i_nar _) dX6_ofPage_8 ?_
    exact congrArg (fun x => some (Value.int x)) (by unfold ofPageS; rw [if_neg (by rw [h4]; exact Bool.false_ne_true)])

set_option maxHeartbeats 4000000 in
set_option maxRecDepth 100000 in
theorem c_X6_hides (l : Launch) (D : DT) (a : Nat → Nat) (f : Nat → Int32) (na : Nat → Nat → Int32) (w td vl : Nat → Int32) (L pt fl : Nat) (kd : Int32) (kp : Nat) (fq fs : Nat → Option Nat) (tl : va_W) (mk n b : Nat) (hW : WF f mk n b) (hNR : NR f na n) (x : Int32) : MR l yX6_hides wsX6_hides 4 96 D [.ref (a 19), .int x] (wB D a f na w td vl L pt fl kd kp fq fs tl) (fun v => v = some (.int (hidesS f x))) := by
  obtain ⟨hmk, h40, hn8, hb0, hb1, hb8, hnb, hst, hno, how, hdo, hs1, hs2, hs3, hZF⟩ := id hW
  have h8 : n ≤ 8 := by omega
  obtain ⟨eN1, eN2, eN3⟩ := hW.N
  refine MR.of (cc := cX6_hides) (maxL := 2) (ret := (some .int)) (lv := [(0, .ref (a 19)), (1, .int x)]) (by decide +kernel) rfl (Nat.le_of_ble_eq_true rfl) rfl ?_
  intro p e s m below meth c A X hr hmn
  have hinX60 : ∀ w ∈ wsX60, w ∈ wsX6_hides := fun w h => List.mem_cons_of_mem _ (List.mem_append_left _ (List.mem_append_left _ (List.mem_append_right _ h)))
  have hinX20 : ∀ w ∈ wsX20, w ∈ wsX6_hides := fun w h => List.mem_cons_of_mem _ (List.mem_append_left _ (List.mem_append_right _ h))
  have hinX40 : ∀ w ∈ wsX40, w ∈ wsX6_hides := fun w h => List.mem_cons_of_mem _ (List.mem_append_right _ h)
  have hl12 := List.mem_of_getElem? (l := wsX6_hides) (i := 1) rfl
  have hl107 := List.mem_of_getElem? (l := wsX6_hides) (i := 2) rfl
  refine g_aload_n X dX6_hides_0 rfl 0 rfl rfl ?_
  refine gB_get_VisaPages_house X dX6_hides_1 hinX60 hl12 rfl ?_
  refine gB_get_House_stamps X dX6_hides_4 hinX20 hl107 rfl ?_
  refine g_iload_n X dX6_hides_7 rfl 1 rfl rfl ?_
  refine g_callVRq (n := 1) (As := [_]) (rest := []) X (c_X4_has l D _ _ _ _ mk hmk h40 _) gX6_hides_X4_has rfl (by decide +kernel) ⟨Nat.le_of_ble_eq_true rfl, Nat.le_of_ble_eq_true rfl⟩ 5 rfl rfl [0, 1, 2, 3, 4, 5, 6, 7, 8, 9, 10, 11, 12, 13, 14, 15, 16] rfl (by decide) rfl rfl (Nat.le_of_ble_eq_true rfl) dX6_hides_8 ⟨Nat.le_of_ble_eq_true rfl, Nat.le_of_ble_eq_true rfl⟩ rfl (fun v hv => ?_)
  obtain rfl := hv
  refine g_st (st' := [_]) rfl ?_
  refine g_if_eq X dX6_hides_11 34 (by decide) rfl (fun h11 => ?_) (fun h11 => ?_)
  · replace h11 := b2i_0 h11
    refine g_iconst (v := ((-1) : Int32)) X dX6_hides_34 (by decide) rfl ?_
    refine g_retR X hr (by first | rfl | exact b2i_nar _) dX6_hides_35 ?_
    first
    | exact congrArg (fun x => some (Value.int x)) (by unfold hidesS; rw [eN1, if_pos h11, nI_clamp (by omega)])
    | exact congrArg (fun x => some (Value.int x)) (by unfold hidesS; rw [eN1, if_neg (by rw [h11]; exact Bool.false_ne_true)])
  · replace h11 := b2i_n0 h11
    obtain ⟨q, hq, rfl⟩ := rng_nI h11
    refine g_aload_n X dX6_hides_14 rfl 0 rfl rfl ?_
    refine gB_get_VisaPages_house X dX6_hides_15 hinX60 hl12 rfl ?_
    refine g_iload_n X dX6_hides_18 rfl 1 rfl rfl ?_
    refine g_aload_n X dX6_hides_19 rfl 0 rfl rfl ?_
    refine gB_get_VisaPages_house X dX6_hides_20 hinX60 hl12 rfl ?_
    refine g_bipush (v := ((-6) : Int32)) X dX6_hides_23 (by decide) rfl ?_
    refine g_callVRq (n := 1) (As := [_]) (rest := [_, _]) X (c_X2_goodStamps l D _ _ _ _ mk hmk h40 hst how _ (Or.inl rfl)) gX6_hides_X2_goodStamps rfl (by decide +kernel) ⟨Nat.le_of_ble_eq_true rfl, Nat.le_of_ble_eq_true rfl⟩ 0 rfl rfl [0, 1, 2, 3, 4, 5, 6, 7, 8, 9, 10, 11, 12, 13, 14, 15, 16] rfl (by decide) rfl rfl (Nat.le_of_ble_eq_true rfl) dX6_hides_25 ⟨Nat.le_of_ble_eq_true rfl, Nat.le_of_ble_eq_true rfl⟩ rfl (fun v hv => ?_)
    obtain rfl := hv
    refine g_st (st' := [_, _, _]) rfl ?_
    rw [fW_6]
    refine g_callVRq (n := 2) (As := [_, _]) (rest := []) X (c_X2_hiddenWithout l D _ _ _ _ mk hmk h40 hst how q hq) gX6_hides_X2_hiddenWithout rfl (by decide +kernel) ⟨Nat.le_of_ble_eq_true rfl, Nat.le_of_ble_eq_true rfl⟩ 0 rfl rfl [0, 1, 2, 3, 4, 5, 6, 7, 8, 9, 10, 11, 12, 13, 14, 15, 16] rfl (by decide) rfl rfl (Nat.le_of_ble_eq_true rfl) dX6_hides_28 ⟨Nat.le_of_ble_eq_true rfl, Nat.le_of_ble_eq_true rfl⟩ rfl (fun v hv => ?_)
    obtain rfl := hv
    refine g_st (st' := [_]) rfl ?_
    refine g_goto X dX6_hides_31 35 (by decide) ?_
    refine g_retR X hr (by first | rfl | exact b2i_nar _) dX6_hides_35 ?_
    first
    | exact congrArg (fun x => some (Value.int x)) (by unfold hidesS; rw [eN1, if_pos h11, nI_clamp (by omega)])
    | exact congrArg (fun x => some (Value.int x)) (by unfold hidesS; rw [eN1, if_neg (by rw [h11]; exact Bool.false_ne_true)])

set_option maxHeartbeats 4000000 in
set_option maxRecDepth 100000 in
theorem c_X6_longest (l : Launch) (D : DT) (a : Nat → Nat) (f : Nat → Int32) (na : Nat → Nat → Int32) (w td vl : Nat → Int32) (L pt fl : Nat) (kd : Int32) (kp : Nat) (fq fs : Nat → Option Nat) (tl : va_W) (mk n b : Nat) (hW : WF f mk n b) (hNR : NR f na n) : MR l yX6_longest wsX6_longest 4 97 D [.ref (a 19)] (wB D a f na w td vl L pt fl kd kp fq fs tl) (fun v => v = some (.int (longestS f))) := by
  obtain ⟨hmk, h40, hn8, hb0, hb1, hb8, hnb, hst, hno, how, hdo, hs1, hs2, hs3, hZF⟩ := id hW
  have h8 : n ≤ 8 := by omega
  obtain ⟨eN1, eN2, eN3⟩ := hW.N
  refine MR.of (cc := cX6_longest) (maxL := 1) (ret := (some .int)) (lv := [(0, .ref (a 19))]) (by decide +kernel) rfl (Nat.le_of_ble_eq_true rfl) rfl ?_
  intro p e s m below meth c A X hr hmn
  have hinX60 : ∀ w ∈ wsX60, w ∈ wsX6_longest := fun w h => List.mem_cons_of_mem _ (List.mem_append_left _ (List.mem_append_left _ (List.mem_append_right _ h)))
  have hinX20 : ∀ w ∈ wsX20, w ∈ wsX6_longest := fun w h => List.mem_cons_of_mem _ (List.mem_append_left _ (List.mem_append_right _ h))
  have hinX40 : ∀ w ∈ wsX40, w ∈ wsX6_longest := fun w h => List.mem_cons_of_mem _ (List.mem_append_right _ h)
  have hl12 := List.mem_of_getElem? (l := wsX6_longest) (i := 1) rfl
  refine g_aload_n X dX6_longest_0 rfl 0 rfl rfl ?_
  refine gB_get_VisaPages_house X dX6_longest_1 hinX60 hl12 rfl ?_
  refine g_callVRq (n := 0) (As := []) (rest := []) X (c_X2_longestChain l D _ _ _ _ mk hmk h40 hst how) gX6_longest_X2_longestChain rfl (by decide +kernel) ⟨Nat.le_of_ble_eq_true rfl, Nat.le_of_ble_eq_true rfl⟩ 0 rfl rfl [0, 1, 2, 3, 4, 5, 6, 7, 8, 9, 10, 11, 12, 13, 14, 15, 16] rfl (by decide) rfl rfl (Nat.le_of_ble_eq_true rfl) dX6_longest_4 ⟨Nat.le_of_ble_eq_true rfl, Nat.le_of_ble_eq_true rfl⟩ rfl (fun v hv => ?_)
  obtain rfl := hv
  refine g_st (st' := [_]) rfl ?_
  refine g_retR X hr (by first | rfl | exact b2i_nar _) dX6_longest_7 ?_
  exact congrArg (fun x => some (Value.int x)) (by unfold longestS; rw [eN1])
