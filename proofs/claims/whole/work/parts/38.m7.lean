set_option maxHeartbeats 4000000 in
set_option maxRecDepth 100000 in
theorem c_X7_ofPage (l : Launch) (D : DT) (a : Nat → Nat) (fa fp fs fv fg fw fd ft fn : Nat → Int32) (p1 pm wk dm sp iw od : Int32) (mk nn b : Nat) (hW : WF fa mk nn b) (x w : Int32) : MW l yX7_ofPage wsX7_ofPage 3 67 0 0 D [.ref (a 0), .int x, .int w] (wM D a fa fp fs fv fg fw fd ft fn p1 pm wk dm sp iw od) (rdPost D a fa fp fs fv fw fd ft fn p1 pm dm sp iw od (.int (ofPageS fa x w))) := by
  refine MW.of (cc := cX7_ofPage) (maxL := 3) (ret := (some .int)) (lv := [(0, .ref (a 0)), (1, .int x), (2, .int w)]) (by decide +kernel) rfl (Nat.le_of_ble_eq_true rfl) rfl ?_
  intro p e s m below meth c A hAe hAg X hr hmn
  have hinX70 : ∀ w ∈ wsX70, w ∈ wsX7_ofPage := fun w h => List.mem_cons_of_mem _ (List.mem_append_right _ h)
  have hl7 := List.mem_of_getElem? (l := wsX7_ofPage) (i := 1) rfl
  obtain ⟨hmk, h40, hnn, hb0, hb1, hb8, hnb, hst, hnk, how, hdo, hs1, hs2, hs3, hZF⟩ := id hW
  have hmkN : mkN fa = mk := by unfold mkN; rw [hmk]; exact nI_clamp (by omega)
  have hnN : nN fa = nn := by unfold nN; rw [hnn]; exact nI_clamp (by omega)
  refine g_iload_n X dX7_ofPage_0 rfl 1 rfl rfl ?_
  refine g_callSR (n := 1) (As := [_]) (rest := []) X (c_X7_isPage l D _) gX7_ofPage_X7_isPage rfl (by decide +kernel) ⟨Nat.le_of_ble_eq_true rfl, Nat.le_of_ble_eq_true rfl⟩ [] rfl rfl rfl rfl (Nat.le_of_ble_eq_true rfl) dX7_ofPage_1 ⟨Nat.le_of_ble_eq_true rfl, Nat.le_of_ble_eq_true rfl⟩ rfl (fun v hv => ?_)
  obtain rfl := hv
  refine g_st (st' := [_]) rfl ?_
  refine g_if_ne X dX7_ofPage_4 9 (by decide) rfl (fun h4 => ?_) (fun h4 => ?_)
  · replace h4 := b2i_n0 h4
    obtain ⟨pq, hpq, rfl⟩ := rng_nI h4
    have hcx := nI_clamp (n := pq) (by omega)
    refine g_aload_n X dX7_ofPage_9 rfl 0 rfl rfl ?_
    refine g_callVWs (n := 0) (As := []) (rest := []) X hAg rfl (c_X7_findGood l D _ _ _ _ _ _ _ _ _ _ _ _ _ _ _ _ _  mk hmk h40 hst) gX7_ofPage_X7_findGood rfl (by decide +kernel) ⟨Nat.le_of_ble_eq_true rfl, Nat.le_of_ble_eq_true rfl⟩ rfl rfl  rfl rfl (Nat.le_of_ble_eq_true rfl) dX7_ofPage_10 ⟨Nat.le_of_ble_eq_true rfl, Nat.le_of_ble_eq_true rfl⟩ rfl (fun v w hv => ?_)
    obtain ⟨rfl, rfl⟩ := hv
    refine ⟨rfl, ?_⟩
    refine g_st (st' := []) rfl ?_
    refine g_iload_n X dX7_ofPage_13 rfl 2 rfl rfl ?_
    refine g_table X dX7_ofPage_14 (fun v : Int => if v = 0 then 44 else if v = 1 then 53 else if v = 2 then 60 else if v = 3 then 67 else 73) (by
        intro v h1 h2
        have hv : v = 0 ∨ v = 1 ∨ v = 2 ∨ v = 3 := by omega
        rcases hv with rfl | rfl | rfl | rfl
        all_goals exact ⟨_, rfl, by decide⟩) 73 (by decide) (fun hl hh => ?_) (fun hd => ?_)
    · have hc : (w).toInt = 0 ∨ (w).toInt = 1 ∨ (w).toInt = 2 ∨ (w).toInt = 3 := by omega
      rcases hc with hc | hc | hc | hc
      · have ec14 : w = (0 : Int32) := Int32.toInt_inj.mp hc
        refine g_pc 44 (by rw [hc]; rfl) ?_
        refine g_aload_n X dX7_ofPage_44 rfl 0 rfl rfl ?_
        refine gM_get_at X dX7_ofPage_45 hinX70 hl7 rfl ?_
        refine g_iconst (v := (4 : Int32)) X dX7_ofPage_48 (by decide) rfl ?_
        refine g_iload_n X dX7_ofPage_49 rfl 1 rfl rfl ?_
        refine g_iadd X dX7_ofPage_50 rfl ?_
        refine g_topi (y := nI (4 + pq)) (nI_add (4) (pq)) ?_
        refine gM_ld_at X dX7_ofPage_51 (by first | rfl | assumption) (by omega) rfl ?_
        refine g_retW X hr (by first | rfl | exact b2i_nar _) dX7_ofPage_52 hAe ?_
        exact rdPost_i (by simp [ofPageS, *])
      · have ec14 : w = (1 : Int32) := Int32.toInt_inj.mp hc
        refine g_pc 53 (by rw [hc]; rfl) ?_
        refine g_aload_n X dX7_ofPage_53 rfl 0 rfl rfl ?_
        refine g_iload_n X dX7_ofPage_54 rfl 1 rfl rfl ?_
        refine g_iconst (v := (1 : Int32)) X dX7_ofPage_55 (by decide) rfl ?_
        refine g_callVRs (n := 2) (As := [_, _]) (rest := []) X (c_X7_whoCan l D _ _ _ _ _ _ _ _ _ _ _ _ _ _ _ _ _  mk hmk h40 hst (gd fa) (fun s hs => fgI_lt hs) pq hpq _) gX7_ofPage_X7_whoCan rfl (by decide +kernel) ⟨Nat.le_of_ble_eq_true rfl, Nat.le_of_ble_eq_true rfl⟩ rfl rfl  rfl rfl (Nat.le_of_ble_eq_true rfl) dX7_ofPage_56 ⟨Nat.le_of_ble_eq_true rfl, Nat.le_of_ble_eq_true rfl⟩ rfl (fun v hv => ?_)
        obtain rfl := hv
        refine g_st (st' := [_]) rfl ?_
        refine g_retW X hr (by first | rfl | exact b2i_nar _) dX7_ofPage_59 hAe ?_
        exact rdPost_i (by simp [ofPageS, *])
      · have ec14 : w = (2 : Int32) := Int32.toInt_inj.mp hc
        refine g_pc 60 (by rw [hc]; rfl) ?_
        refine g_aload_n X dX7_ofPage_60 rfl 0 rfl rfl ?_
        refine g_iload_n X dX7_ofPage_61 rfl 1 rfl rfl ?_
        refine g_iconst (v := (2 : Int32)) X dX7_ofPage_62 (by decide) rfl ?_
        refine g_callVRs (n := 2) (As := [_, _]) (rest := []) X (c_X7_whoCan l D _ _ _ _ _ _ _ _ _ _ _ _ _ _ _ _ _  mk hmk h40 hst (gd fa) (fun s hs => fgI_lt hs) pq hpq _) gX7_ofPage_X7_whoCan rfl (by decide +kernel) ⟨Nat.le_of_ble_eq_true rfl, Nat.le_of_ble_eq_true rfl⟩ rfl rfl  rfl rfl (Nat.le_of_ble_eq_true rfl) dX7_ofPage_63 ⟨Nat.le_of_ble_eq_true rfl, Nat.le_of_ble_eq_true rfl⟩ rfl (fun v hv => ?_)
        obtain rfl := hv
        refine g_st (st' := [_]) rfl ?_
        refine g_retW X hr (by first | rfl | exact b2i_nar _) dX7_ofPage_66 hAe ?_
        exact rdPost_i (by simp [ofPageS, *])
      · have ec14 : w = (3 : Int32) := Int32.toInt_inj.mp hc
        refine g_pc 67 (by rw [hc]; rfl) ?_
        refine g_aload_n X dX7_ofPage_67 rfl 0 rfl rfl ?_
        refine g_iload_n X dX7_ofPage_68 rfl 1 rfl rfl ?_
        refine g_callVRs (n := 1) (As := [_]) (rest := []) X (c_X7_goodStamps l D _ _ _ _ _ _ _ _ _ _ _ _ _ _ _ _ _  mk hmk h40 hst (gd fa) (fun s hs => fgI_lt hs) _) gX7_ofPage_X7_goodStamps rfl (by decide +kernel) ⟨Nat.le_of_ble_eq_true rfl, Nat.le_of_ble_eq_true rfl⟩ rfl rfl  rfl rfl (Nat.le_of_ble_eq_true rfl) dX7_ofPage_69 ⟨Nat.le_of_ble_eq_true rfl, Nat.le_of_ble_eq_true rfl⟩ rfl (fun v hv => ?_)
        obtain rfl := hv
        refine g_st (st' := [_]) rfl ?_
        refine g_retW X hr (by first | rfl | exact b2i_nar _) dX7_ofPage_72 hAe ?_
        refine rdPost_i ?_
        have e9 : cnI (fun s => gd fa s && (decide (nI pq < 0) || decide (ofM fa s 0 = nI pq))) mk = cnI (fun s => gd fa s && decide (ofM fa s 0 = nI pq)) mk := cnI_P mk (fun k hk => by simp [nI_pos (n := pq) (by omega)])
        rw [e9]
        simp [ofPageS, *]
    · have ne0 : ¬ w = (0 : Int32) := fun z => by rw [z] at hd; exact absurd hd (by decide)
      have ne1 : ¬ w = (1 : Int32) := fun z => by rw [z] at hd; exact absurd hd (by decide)
      have ne2 : ¬ w = (2 : Int32) := fun z => by rw [z] at hd; exact absurd hd (by decide)
      have ne3 : ¬ w = (3 : Int32) := fun z => by rw [z] at hd; exact absurd hd (by decide)
      refine g_bipush (v := ((-2) : Int32)) X dX7_ofPage_73 (by decide) rfl ?_
      refine g_retW X hr (by first | rfl | exact b2i_nar _) dX7_ofPage_75 hAe ?_
      exact rdPost_i (by simp [ofPageS, *])
  · replace h4 := b2i_0 h4
    refine g_iconst (v := ((-1) : Int32)) X dX7_ofPage_7 (by decide) rfl ?_
    refine g_retW X hr (by first | rfl | exact b2i_nar _) dX7_ofPage_8 hAe ?_
    exact rdPost_i (by simp [ofPageS, *])

set_option maxHeartbeats 4000000 in
set_option maxRecDepth 100000 in
theorem c_X7_ofStamp (l : Launch) (D : DT) (a : Nat → Nat) (fa fp fs fv fg fw fd ft fn : Nat → Int32) (p1 pm wk dm sp iw od : Int32) (mk nn b : Nat) (hW : WF fa mk nn b) (x w : Int32) : MW l yX7_ofStamp wsX7_ofStamp 4 88 0 0 D [.ref (a 0), .int x, .int w] (wM D a fa fp fs fv fg fw fd ft fn p1 pm wk dm sp iw od) (rdPost D a fa fp fs fv fw fd ft fn p1 pm dm sp iw od (.int (ofStampS fa x w))) := by
  refine MW.of (cc := cX7_ofStamp) (maxL := 3) (ret := (some .int)) (lv := [(0, .ref (a 0)), (1, .int x), (2, .int w)]) (by decide +kernel) rfl (Nat.le_of_ble_eq_true rfl) rfl ?_
  intro p e s m below meth c A hAe hAg X hr hmn
  have hinX70 : ∀ w ∈ wsX70, w ∈ wsX7_ofStamp := fun w h => List.mem_cons_of_mem _ (List.mem_append_right _ h)
  obtain ⟨hmk, h40, hnn, hb0, hb1, hb8, hnb, hst, hnk, how, hdo, hs1, hs2, hs3, hZF⟩ := id hW
  have hmkN : mkN fa = mk := by unfold mkN; rw [hmk]; exact nI_clamp (by omega)
  have hnN : nN fa = nn := by unfold nN; rw [hnn]; exact nI_clamp (by omega)
  have e07 : decide ((0 : Int) ≤ w.toInt ∧ w.toInt ≤ (6 : Int)) = rng 7 w := by unfold rng; exact decide_eq_decide.mpr ⟨fun h => by omega, fun h => by omega⟩
  refine g_aload_n X dX7_ofStamp_0 rfl 0 rfl rfl ?_
  refine g_iload_n X dX7_ofStamp_1 rfl 1 rfl rfl ?_
  refine g_callVRs (n := 1) (As := [_]) (rest := []) X (c_X7_isStamp l D _ _ _ _ _ _ _ _ _ _ _ _ _ _ _ _ _  mk hmk h40 _) gX7_ofStamp_X7_isStamp rfl (by decide +kernel) ⟨Nat.le_of_ble_eq_true rfl, Nat.le_of_ble_eq_true rfl⟩ rfl rfl  rfl rfl (Nat.le_of_ble_eq_true rfl) dX7_ofStamp_2 ⟨Nat.le_of_ble_eq_true rfl, Nat.le_of_ble_eq_true rfl⟩ rfl (fun v hv => ?_)
  obtain rfl := hv
  refine g_st (st' := [_]) rfl ?_
  refine g_if_ne X dX7_ofStamp_5 10 (by decide) rfl (fun h5 => ?_) (fun h5 => ?_)
  · replace h5 := b2i_n0 h5
    obtain ⟨q, hq, rfl⟩ := rng_nI h5
    have hcx := nI_clamp (n := q) (by omega)
    refine g_iload_n X dX7_ofStamp_10 rfl 2 rfl rfl ?_
    refine g_iconst (v := (0 : Int32)) X dX7_ofStamp_11 (by decide) rfl ?_
    refine g_bipush (v := (6 : Int32)) X dX7_ofStamp_12 (by decide) rfl ?_
    refine g_callSR (n := 3) (As := [_, _, _]) (rest := []) X (c_X7_in l D _ _ _) gX7_ofStamp_X7_in rfl (by decide +kernel) ⟨Nat.le_of_ble_eq_true rfl, Nat.le_of_ble_eq_true rfl⟩ [] rfl rfl rfl rfl (Nat.le_of_ble_eq_true rfl) dX7_ofStamp_14 ⟨Nat.le_of_ble_eq_true rfl, Nat.le_of_ble_eq_true rfl⟩ rfl (fun v hv => ?_)
    obtain rfl := hv
    refine g_st (st' := [_]) rfl ?_
    refine g_topi (y := b2i (rng 7 w)) (congrArg b2i e07) ?_
    refine g_if_eq X dX7_ofStamp_17 27 (by decide) rfl (fun h17 => ?_) (fun h17 => ?_)
    · replace h17 := b2i_0 h17
      refine g_iload_n X dX7_ofStamp_27 rfl 2 rfl rfl ?_
      refine g_bipush (v := (7 : Int32)) X dX7_ofStamp_28 (by decide) rfl ?_
      refine g_icmp_ne X dX7_ofStamp_30 49 (by decide) rfl (fun h30 => ?_) (fun h30 => ?_)
      · refine g_iload_n X dX7_ofStamp_49 rfl 2 rfl rfl ?_
        refine g_bipush (v := (8 : Int32)) X dX7_ofStamp_50 (by decide) rfl ?_
        refine g_icmp_ne X dX7_ofStamp_52 63 (by decide) rfl (fun h52 => ?_) (fun h52 => ?_)
        · refine g_iload_n X dX7_ofStamp_63 rfl 2 rfl rfl ?_
          refine g_bipush (v := (9 : Int32)) X dX7_ofStamp_64 (by decide) rfl ?_
          refine g_icmp_ne X dX7_ofStamp_66 77 (by decide) rfl (fun h66 => ?_) (fun h66 => ?_)
          · refine g_bipush (v := ((-2) : Int32)) X dX7_ofStamp_77 (by decide) rfl ?_
            refine g_retW X hr (by first | rfl | exact b2i_nar _) dX7_ofStamp_79 hAe ?_
            exact rdPost_i (by first | (simp [ofStampS, b2i, *]; done) | (simp_all [ofStampS, b2i]; done))
          · refine g_aload_n X dX7_ofStamp_69 rfl 0 rfl rfl ?_
            refine g_iload_n X dX7_ofStamp_70 rfl 1 rfl rfl ?_
            refine g_callVRs (n := 1) (As := [_]) (rest := []) X (c_X7_behind l D _ _ _ _ _ _ _ _ _ _ _ _ _ _ _ _ _  mk hmk h40 hst (q) (by omega)) gX7_ofStamp_X7_behind rfl (by decide +kernel) ⟨Nat.le_of_ble_eq_true rfl, Nat.le_of_ble_eq_true rfl⟩ rfl rfl  rfl rfl (Nat.le_of_ble_eq_true rfl) dX7_ofStamp_71 ⟨Nat.le_of_ble_eq_true rfl, Nat.le_of_ble_eq_true rfl⟩ rfl (fun v hv => ?_)
            obtain rfl := hv
            refine g_st (st' := [_]) rfl ?_
            refine g_goto X dX7_ofStamp_74 79 (by decide) ?_
            refine g_retW X hr (by first | rfl | exact b2i_nar _) dX7_ofStamp_79 hAe ?_
            exact rdPost_i (by first | (simp [ofStampS, b2i, *]; done) | (simp_all [ofStampS, b2i]; done))
        · refine g_aload_n X dX7_ofStamp_55 rfl 0 rfl rfl ?_
          refine g_iload_n X dX7_ofStamp_56 rfl 1 rfl rfl ?_
          refine g_callVRs (n := 1) (As := [_]) (rest := []) X (c_X7_chain l D _ _ _ _ _ _ _ _ _ _ _ _ _ _ _ _ _  mk hmk h40 hst (q) (by omega)) gX7_ofStamp_X7_chain rfl (by decide +kernel) ⟨Nat.le_of_ble_eq_true rfl, Nat.le_of_ble_eq_true rfl⟩ rfl rfl  rfl rfl (Nat.le_of_ble_eq_true rfl) dX7_ofStamp_57 ⟨Nat.le_of_ble_eq_true rfl, Nat.le_of_ble_eq_true rfl⟩ rfl (fun v hv => ?_)
          obtain rfl := hv
          refine g_st (st' := [_]) rfl ?_
          refine g_goto X dX7_ofStamp_60 79 (by decide) ?_
          refine g_retW X hr (by first | rfl | exact b2i_nar _) dX7_ofStamp_79 hAe ?_
          exact rdPost_i (by first | (simp [ofStampS, b2i, *]; done) | (simp_all [ofStampS, b2i]; done))
      · refine g_aload_n X dX7_ofStamp_33 rfl 0 rfl rfl ?_
        refine g_iload_n X dX7_ofStamp_34 rfl 1 rfl rfl ?_
        refine g_callVWs (n := 1) (As := [_]) (rest := []) X hAg rfl (c_X7_isGood l D _ _ _ _ _ _ _ _ _ _ _ _ _ _ _ _ _  mk hmk h40 hst (q) (by omega)) gX7_ofStamp_X7_isGood rfl (by decide +kernel) ⟨Nat.le_of_ble_eq_true rfl, Nat.le_of_ble_eq_true rfl⟩ rfl rfl  rfl rfl (Nat.le_of_ble_eq_true rfl) dX7_ofStamp_35 ⟨Nat.le_of_ble_eq_true rfl, Nat.le_of_ble_eq_true rfl⟩ rfl (fun v w hv => ?_)
        obtain ⟨rfl, rfl⟩ := hv
        refine ⟨rfl, ?_⟩
        refine g_st (st' := [_]) rfl ?_
        refine g_if_eq X dX7_ofStamp_38 45 (by decide) rfl (fun h38 => ?_) (fun h38 => ?_)
        · replace h38 := b2i_0 h38
          refine g_iconst (v := (0 : Int32)) X dX7_ofStamp_45 (by decide) rfl ?_
          refine g_goto X dX7_ofStamp_46 79 (by decide) ?_
          refine g_retW X hr (by first | rfl | exact b2i_nar _) dX7_ofStamp_79 hAe ?_
          exact rdPost_i (by first | (simp [ofStampS, b2i, *]; done) | (simp_all [ofStampS, b2i]; done))
        · replace h38 := b2i_n0 h38
          refine g_iconst (v := (1 : Int32)) X dX7_ofStamp_41 (by decide) rfl ?_
          refine g_goto X dX7_ofStamp_42 79 (by decide) ?_
          refine g_retW X hr (by first | rfl | exact b2i_nar _) dX7_ofStamp_79 hAe ?_
          exact rdPost_i (by first | (simp [ofStampS, b2i, *]; done) | (simp_all [ofStampS, b2i]; done))
    · replace h17 := b2i_n0 h17
      obtain ⟨j, hj, rfl⟩ := rng_nI h17
      have hcj := nI_clamp (n := j) (by omega)
      refine g_aload_n X dX7_ofStamp_20 rfl 0 rfl rfl ?_
      refine g_iload_n X dX7_ofStamp_21 rfl 1 rfl rfl ?_
      refine g_iload_n X dX7_ofStamp_22 rfl 2 rfl rfl ?_
      refine g_callVRs (n := 2) (As := [_, _]) (rest := []) X (c_X7_of l D _ _ _ _ _ _ _ _ _ _ _ _ _ _ _ _ _  (q) (j) (by omega) (by omega)) gX7_ofStamp_X7_of rfl (by decide +kernel) ⟨Nat.le_of_ble_eq_true rfl, Nat.le_of_ble_eq_true rfl⟩ rfl rfl  rfl rfl (Nat.le_of_ble_eq_true rfl) dX7_ofStamp_23 ⟨Nat.le_of_ble_eq_true rfl, Nat.le_of_ble_eq_true rfl⟩ rfl (fun v hv => ?_)
      obtain rfl := hv
      refine g_st (st' := [_]) rfl ?_
      refine g_retW X hr (by first | rfl | exact b2i_nar _) dX7_ofStamp_26 hAe ?_
      exact rdPost_i (by simp [ofStampS, *])
  · replace h5 := b2i_0 h5
    refine g_iconst (v := ((-1) : Int32)) X dX7_ofStamp_8 (by decide) rfl ?_
    refine g_retW X hr (by first | rfl | exact b2i_nar _) dX7_ofStamp_9 hAe ?_
    exact rdPost_i (by simp [ofStampS, *])

set_option maxHeartbeats 4000000 in
set_option maxRecDepth 100000 in
theorem c_X7_leads (l : Launch) (D : DT) (a : Nat → Nat) (fa fp fs fv fg fw fd ft fn : Nat → Int32) (p1 pm wk dm sp iw od : Int32) (g d : Int32) : MR l yX7_leads wsX7_leads 3 63 D [.ref (a 0), .int g, .int d] (wM D a fa fp fs fv fg fw fd ft fn p1 pm wk dm sp iw od) (fun v => v = some (.int (leadsS fa g d))) := by
  refine MR.of (cc := cX7_leads) (maxL := 3) (ret := (some .int)) (lv := [(0, .ref (a 0)), (1, .int g), (2, .int d)]) (by decide +kernel) rfl (Nat.le_of_ble_eq_true rfl) rfl ?_
  intro p e s m below meth c A X hr hmn
  have hinX70 : ∀ w ∈ wsX70, w ∈ wsX7_leads := fun w h => List.mem_cons_of_mem _ (List.mem_append_right _ h)
  refine g_iload_n X dX7_leads_0 rfl 1 rfl rfl ?_
  refine g_iload_n X dX7_leads_1 rfl 2 rfl rfl ?_
  refine g_callSR (n := 2) (As := [_, _]) (rest := []) X (c_X7_isDoor l D _ _) gX7_leads_X7_isDoor rfl (by decide +kernel) ⟨Nat.le_of_ble_eq_true rfl, Nat.le_of_ble_eq_true rfl⟩ [] rfl rfl rfl rfl (Nat.le_of_ble_eq_true rfl) dX7_leads_2 ⟨Nat.le_of_ble_eq_true rfl, Nat.le_of_ble_eq_true rfl⟩ rfl (fun v hv => ?_)
  obtain rfl := hv
  refine g_st (st' := [_]) rfl ?_
  refine g_if_eq X dX7_leads_5 17 (by decide) rfl (fun h5 => ?_) (fun h5 => ?_)
  · replace h5 := b2i_0 h5
    refine g_iconst (v := ((-1) : Int32)) X dX7_leads_17 (by decide) rfl ?_
    refine g_retR X hr (by first | rfl | exact b2i_nar _) dX7_leads_18 ?_
    refine congrArg (fun x => some (Value.int x)) ?_
    unfold leadsS
    first
    | rw [if_pos h5, hcg, hcd]
    | (rw [if_neg (by rw [h5]; exact Bool.false_ne_true)])
  · replace h5 := b2i_n0 h5
    obtain ⟨gq, hgq, egq⟩ := rng_nI (Bool.and_eq_true_iff.mp h5).1
    obtain ⟨dq, hdq, edq⟩ := rng_nI (Bool.and_eq_true_iff.mp h5).2
    subst egq; subst edq
    have hcg := nI_clamp (n := gq) (by omega)
    have hcd := nI_clamp (n := dq) (by omega)
    refine g_aload_n X dX7_leads_8 rfl 0 rfl rfl ?_
    refine g_iload_n X dX7_leads_9 rfl 1 rfl rfl ?_
    refine g_iload_n X dX7_leads_10 rfl 2 rfl rfl ?_
    refine g_callVRs (n := 2) (As := [_, _]) (rest := []) X (c_X7_leadsBy l D _ _ _ _ _ _ _ _ _ _ _ _ _ _ _ _ _  (gq) (dq) (by omega) (by omega)) gX7_leads_X7_leadsBy rfl (by decide +kernel) ⟨Nat.le_of_ble_eq_true rfl, Nat.le_of_ble_eq_true rfl⟩ rfl rfl  rfl rfl (Nat.le_of_ble_eq_true rfl) dX7_leads_11 ⟨Nat.le_of_ble_eq_true rfl, Nat.le_of_ble_eq_true rfl⟩ rfl (fun v hv => ?_)
    obtain rfl := hv
    refine g_st (st' := [_]) rfl ?_
    refine g_goto X dX7_leads_14 18 (by decide) ?_
    refine g_retR X hr (by first | rfl | exact b2i_nar _) dX7_leads_18 ?_
    refine congrArg (fun x => some (Value.int x)) ?_
    unfold leadsS
    first
    | rw [if_pos h5, hcg, hcd]
    | (rw [if_neg (by rw [h5]; exact Bool.false_ne_true)])

set_option maxHeartbeats 4000000 in
set_option maxRecDepth 100000 in
theorem c_X7_note (l : Launch) (D : DT) (a : Nat → Nat) (fa fp fs fv fg fw fd ft fn : Nat → Int32) (p1 pm wk dm sp iw od : Int32) (nn : Nat) (hnn : fa 90 = nI nn) (h9 : nn ≤ 9) (x w : Int32) : MR l yX7_note wsX7_note 1 22 D [.ref (a 0), .int x, .int w] (wM D a fa fp fs fv fg fw fd ft fn p1 pm wk dm sp iw od) (fun v => v = some (.int (noteS fa x w))) := by
  refine MR.of (cc := cX7_note) (maxL := 3) (ret := (some .int)) (lv := [(0, .ref (a 0)), (1, .int x), (2, .int w)]) (by decide +kernel) rfl (Nat.le_of_ble_eq_true rfl) rfl ?_
  intro p e s m below meth c A X hr hmn
  have hinX70 : ∀ w ∈ wsX70, w ∈ wsX7_note := fun w h => List.mem_cons_of_mem _ (List.mem_append_right _ h)
  have hl7 := List.mem_of_getElem? (l := wsX7_note) (i := 1) rfl
  have hnN : nN fa = nn := by unfold nN; rw [hnn]; exact nI_clamp (by omega)
  have e0n : decide ((0 : Int) ≤ x.toInt ∧ x.toInt ≤ (nI nn - 1 : Int32).toInt) = rng nn x := by rw [mk_m1 (by omega)]; unfold rng; exact decide_eq_decide.mpr ⟨fun h => by omega, fun h => by omega⟩
  have e04 : decide ((0 : Int) ≤ w.toInt ∧ w.toInt ≤ (3 : Int)) = rng 4 w := by unfold rng; exact decide_eq_decide.mpr ⟨fun h => by omega, fun h => by omega⟩
  refine g_iload_n X dX7_note_0 rfl 1 rfl rfl ?_
  refine g_iconst (v := (0 : Int32)) X dX7_note_1 (by decide) rfl ?_
  refine g_aload_n X dX7_note_2 rfl 0 rfl rfl ?_
  refine gM_get_at X dX7_note_3 hinX70 hl7 rfl ?_
  refine g_bipush (v := (90 : Int32)) X dX7_note_6 (by decide) rfl ?_
  refine gM_ld_at X dX7_note_8 (k := 90) rfl (by decide) rfl ?_
  refine g_topi hnn ?_
  refine g_iconst (v := (1 : Int32)) X dX7_note_9 (by decide) rfl ?_
  refine g_isub X dX7_note_10 rfl ?_
  refine g_callSR (n := 3) (As := [_, _, _]) (rest := []) X (c_X7_in l D _ _ _) gX7_note_X7_in rfl (by decide +kernel) ⟨Nat.le_of_ble_eq_true rfl, Nat.le_of_ble_eq_true rfl⟩ [] rfl rfl rfl rfl (Nat.le_of_ble_eq_true rfl) dX7_note_11 ⟨Nat.le_of_ble_eq_true rfl, Nat.le_of_ble_eq_true rfl⟩ rfl (fun v hv => ?_)
  obtain rfl := hv
  refine g_st (st' := [_]) rfl ?_
  refine g_topi (y := b2i (rng nn x)) (congrArg b2i e0n) ?_
  refine g_if_ne X dX7_note_14 19 (by decide) rfl (fun h14 => ?_) (fun h14 => ?_)
  · replace h14 := b2i_n0 h14
    refine g_iload_n X dX7_note_19 rfl 2 rfl rfl ?_
    refine g_iconst (v := (0 : Int32)) X dX7_note_20 (by decide) rfl ?_
    refine g_iconst (v := (3 : Int32)) X dX7_note_21 (by decide) rfl ?_
    refine g_callSR (n := 3) (As := [_, _, _]) (rest := []) X (c_X7_in l D _ _ _) gX7_note_X7_in rfl (by decide +kernel) ⟨Nat.le_of_ble_eq_true rfl, Nat.le_of_ble_eq_true rfl⟩ [] rfl rfl rfl rfl (Nat.le_of_ble_eq_true rfl) dX7_note_22 ⟨Nat.le_of_ble_eq_true rfl, Nat.le_of_ble_eq_true rfl⟩ rfl (fun v hv => ?_)
    obtain rfl := hv
    refine g_st (st' := [_]) rfl ?_
    refine g_topi (y := b2i (rng 4 w)) (congrArg b2i e04) ?_
    refine g_if_eq X dX7_note_25 37 (by decide) rfl (fun h25 => ?_) (fun h25 => ?_)
    · replace h25 := b2i_0 h25
      refine g_bipush (v := ((-2) : Int32)) X dX7_note_37 (by decide) rfl ?_
      refine g_retR X hr (by first | rfl | exact b2i_nar _) dX7_note_39 ?_
      refine congrArg (fun x => some (Value.int x)) ?_
      simp [noteS, *]
    · replace h25 := b2i_n0 h25
      obtain ⟨q, hq, rfl⟩ := rng_nI h14
      have hcx := nI_clamp (n := q) (by omega)
      obtain ⟨j, hj, rfl⟩ := rng_nI h25
      have hcj := nI_clamp (n := j) (by omega)
      refine g_aload_n X dX7_note_28 rfl 0 rfl rfl ?_
      refine g_iload_n X dX7_note_29 rfl 1 rfl rfl ?_
      refine g_iload_n X dX7_note_30 rfl 2 rfl rfl ?_
      refine g_callVRs (n := 2) (As := [_, _]) (rest := []) X (c_X7_ofNote l D _ _ _ _ _ _ _ _ _ _ _ _ _ _ _ _ _  (q) (j) (by omega) (by omega)) gX7_note_X7_ofNote rfl (by decide +kernel) ⟨Nat.le_of_ble_eq_true rfl, Nat.le_of_ble_eq_true rfl⟩ rfl rfl  rfl rfl (Nat.le_of_ble_eq_true rfl) dX7_note_31 ⟨Nat.le_of_ble_eq_true rfl, Nat.le_of_ble_eq_true rfl⟩ rfl (fun v hv => ?_)
      obtain rfl := hv
      refine g_st (st' := [_]) rfl ?_
      refine g_goto X dX7_note_34 39 (by decide) ?_
      refine g_retR X hr (by first | rfl | exact b2i_nar _) dX7_note_39 ?_
      refine congrArg (fun x => some (Value.int x)) ?_
      simp [noteS, *]
  · replace h14 := b2i_0 h14
    refine g_iconst (v := ((-1) : Int32)) X dX7_note_17 (by decide) rfl ?_
    refine g_retR X hr (by first | rfl | exact b2i_nar _) dX7_note_18 ?_
    refine congrArg (fun x => some (Value.int x)) ?_
    simp [noteS, *]

set_option maxHeartbeats 4000000 in
set_option maxRecDepth 100000 in
theorem c_X7_count (l : Launch) (D : DT) (a : Nat → Nat) (fa fp fs fv fg fw fd ft fn : Nat → Int32) (p1 : Int32) (wk : Int32) (dm : Int32) (sp : Int32) (iw : Int32) (od : Int32) (mk nn b : Nat) (hW : WF fa mk nn b) (km : Nat) (w : Int32) : MW l yX7_count wsX7_count 4 87 0 0 D [.ref (a 0), .int w] (wM D a fa fp fs fv fg fw fd ft fn p1 (nI km) wk dm sp iw od) (rdPost D a fa fp fs fv fw fd ft fn p1 (nI km) dm sp iw od (.int (countS fa dm km w))) := by
  refine MW.of (cc := cX7_count) (maxL := 2) (ret := (some .int)) (lv := [(0, .ref (a 0)), (1, .int w)]) (by decide +kernel) rfl (Nat.le_of_ble_eq_true rfl) rfl ?_
  intro p e s m below meth c A hAe hAg X hr hmn
  have hinX70 : ∀ w ∈ wsX70, w ∈ wsX7_count := fun w h => List.mem_cons_of_mem _ (List.mem_append_right _ h)
  have hl7 := List.mem_of_getElem? (l := wsX7_count) (i := 1) rfl
  have hl184 := List.mem_of_getElem? (l := wsX7_count) (i := 2) rfl
  have hl46 := List.mem_of_getElem? (l := wsX7_count) (i := 3) rfl
  obtain ⟨hmk, h40, hnn, hb0, hb1, hb8, hnb, hst, hnk, how, hdo, hs1, hs2, hs3, hZF⟩ := id hW
  have hmkN : mkN fa = mk := by unfold mkN; rw [hmk]; exact nI_clamp (by omega)
  have hnN : nN fa = nn := by unfold nN; rw [hnn]; exact nI_clamp (by omega)
  refine g_iload_n X dX7_count_0 rfl 1 rfl rfl ?_
  refine g_table X dX7_count_1 (fun v : Int => if v = 0 then 76 else if v = 1 then 84 else if v = 2 then 89 else if v = 3 then 97 else if v = 4 then 97 else if v = 5 then 97 else if v = 6 then 97 else if v = 7 then 97 else if v = 8 then 97 else if v = 9 then 109 else if v = 10 then 109 else if v = 11 then 109 else if v = 12 then 109 else if v = 13 then 119 else if v = 14 then 124 else 129) (by
      intro v h1 h2
      have hv : v = 0 ∨ v = 1 ∨ v = 2 ∨ v = 3 ∨ v = 4 ∨ v = 5 ∨ v = 6 ∨ v = 7 ∨ v = 8 ∨ v = 9 ∨ v = 10 ∨ v = 11 ∨ v = 12 ∨ v = 13 ∨ v = 14 := by omega
      rcases hv with rfl | rfl | rfl | rfl | rfl | rfl | rfl | rfl | rfl | rfl | rfl | rfl | rfl | rfl | rfl
      all_goals exact ⟨_, rfl, by decide⟩) 129 (by decide) (fun hl hh => ?_) (fun hd => ?_)
  · have hc : (w).toInt = 0 ∨ (w).toInt = 1 ∨ (w).toInt = 2 ∨ (w).toInt = 3 ∨ (w).toInt = 4 ∨ (w).toInt = 5 ∨ (w).toInt = 6 ∨ (w).toInt = 7 ∨ (w).toInt = 8 ∨ (w).toInt = 9 ∨ (w).toInt = 10 ∨ (w).toInt = 11 ∨ (w).toInt = 12 ∨ (w).toInt = 13 ∨ (w).toInt = 14 := by omega
    rcases hc with hc | hc | hc | hc | hc | hc | hc | hc | hc | hc | hc | hc | hc | hc | hc
    · have ec1 : w = (0 : Int32) := Int32.toInt_inj.mp hc
      refine g_pc 76 (by rw [hc]; rfl) ?_
      refine g_aload_n X dX7_count_76 rfl 0 rfl rfl ?_
      refine gM_get_at X dX7_count_77 hinX70 hl7 rfl ?_
      refine g_bipush (v := (76 : Int32)) X dX7_count_80 (by decide) rfl ?_
      refine gM_ld_at X dX7_count_82 (k := 76) rfl (by decide) rfl ?_
      refine g_retW X hr (by first | rfl | exact b2i_nar _) dX7_count_83 hAe ?_
      exact rdPost_i (by simp [countS, *])
    · have ec1 : w = (1 : Int32) := Int32.toInt_inj.mp hc
      refine g_pc 84 (by rw [hc]; rfl) ?_
      refine g_aload_n X dX7_count_84 rfl 0 rfl rfl ?_
      refine g_callVWs (n := 0) (As := []) (rest := []) X hAg rfl (c_X7_allGood l D _ _ _ _ _ _ _ _ _ _ _ _ _ _ _ _ _  mk hmk h40 hst) gX7_count_X7_allGood rfl (by decide +kernel) ⟨Nat.le_of_ble_eq_true rfl, Nat.le_of_ble_eq_true rfl⟩ rfl rfl  rfl rfl (Nat.le_of_ble_eq_true rfl) dX7_count_85 ⟨Nat.le_of_ble_eq_true rfl, Nat.le_of_ble_eq_true rfl⟩ rfl (fun v w hv => ?_)
      obtain ⟨rfl, rfl⟩ := hv
      refine ⟨rfl, ?_⟩
      refine g_st (st' := [_]) rfl ?_
      refine g_retW X hr (by first | rfl | exact b2i_nar _) dX7_count_88 hAe ?_
      exact rdPost_i (by simp [countS, *])
    · have ec1 : w = (2 : Int32) := Int32.toInt_inj.mp hc
      refine g_pc 89 (by rw [hc]; rfl) ?_
      refine g_aload_n X dX7_count_89 rfl 0 rfl rfl ?_
      refine gM_get_at X dX7_count_90 hinX70 hl7 rfl ?_
      refine g_bipush (v := (90 : Int32)) X dX7_count_93 (by decide) rfl ?_
      refine gM_ld_at X dX7_count_95 (k := 90) rfl (by decide) rfl ?_
      refine g_retW X hr (by first | rfl | exact b2i_nar _) dX7_count_96 hAe ?_
      exact rdPost_i (by simp [countS, *])
    · have ec1 : w = (3 : Int32) := Int32.toInt_inj.mp hc
      refine g_pc 97 (by rw [hc]; rfl) ?_
      refine g_aload_n X dX7_count_97 rfl 0 rfl rfl ?_
      refine gM_get_at X dX7_count_98 hinX70 hl7 rfl ?_
      refine g_bipush (v := (77 : Int32)) X dX7_count_101 (by decide) rfl ?_
      refine g_iload_n X dX7_count_103 rfl 1 rfl rfl ?_
      refine g_iadd X dX7_count_104 rfl ?_
      refine g_iconst (v := (3 : Int32)) X dX7_count_105 (by decide) rfl ?_
      refine g_isub X dX7_count_106 rfl ?_
      refine gM_ld_at X dX7_count_107 (k := 77) (by rw [ec1]; decide) (by decide) rfl ?_
      refine g_retW X hr (by first | rfl | exact b2i_nar _) dX7_count_108 hAe ?_
      exact rdPost_i (by simp [countS, *])
    · have ec1 : w = (4 : Int32) := Int32.toInt_inj.mp hc
      refine g_pc 97 (by rw [hc]; rfl) ?_
      refine g_aload_n X dX7_count_97 rfl 0 rfl rfl ?_
      refine gM_get_at X dX7_count_98 hinX70 hl7 rfl ?_
      refine g_bipush (v := (77 : Int32)) X dX7_count_101 (by decide) rfl ?_
      refine g_iload_n X dX7_count_103 rfl 1 rfl rfl ?_
      refine g_iadd X dX7_count_104 rfl ?_
      refine g_iconst (v := (3 : Int32)) X dX7_count_105 (by decide) rfl ?_
      refine g_isub X dX7_count_106 rfl ?_
      refine gM_ld_at X dX7_count_107 (k := 78) (by rw [ec1]; decide) (by decide) rfl ?_
      refine g_retW X hr (by first | rfl | exact b2i_nar _) dX7_count_108 hAe ?_
      exact rdPost_i (by simp [countS, *])
    · have ec1 : w = (5 : Int32) := Int32.toInt_inj.mp hc
      refine g_pc 97 (by rw [hc]; rfl) ?_
      refine g_aload_n X dX7_count_97 rfl 0 rfl rfl ?_
      refine gM_get_at X dX7_count_98 hinX70 hl7 rfl ?_
      refine g_bipush (v := (77 : Int32)) X dX7_count_101 (by decide) rfl ?_
      refine g_iload_n X dX7_count_103 rfl 1 rfl rfl ?_
      refine g_iadd X dX7_count_104 rfl ?_
      refine g_iconst (v := (3 : Int32)) X dX7_count_105 (by decide) rfl ?_
      refine g_isub X dX7_count_106 rfl ?_
      refine gM_ld_at X dX7_count_107 (k := 79) (by rw [ec1]; decide) (by decide) rfl ?_
      refine g_retW X hr (by first | rfl | exact b2i_nar _) dX7_count_108 hAe ?_
      exact rdPost_i (by simp [countS, *])
    · have ec1 : w = (6 : Int32) := Int32.toInt_inj.mp hc
      refine g_pc 97 (by rw [hc]; rfl) ?_
      refine g_aload_n X dX7_count_97 rfl 0 rfl rfl ?_
      refine gM_get_at X dX7_count_98 hinX70 hl7 rfl ?_
      refine g_bipush (v := (77 : Int32)) X dX7_count_101 (by decide) rfl ?_
      refine g_iload_n X dX7_count_103 rfl 1 rfl rfl ?_
      refine g_iadd X dX7_count_104 rfl ?_
      refine g_iconst (v := (3 : Int32)) X dX7_count_105 (by decide) rfl ?_
      refine g_isub X dX7_count_106 rfl ?_
      refine gM_ld_at X dX7_count_107 (k := 80) (by rw [ec1]; decide) (by decide) rfl ?_
      refine g_retW X hr (by first | rfl | exact b2i_nar _) dX7_count_108 hAe ?_
      exact rdPost_i (by simp [countS, *])
    · have ec1 : w = (7 : Int32) := Int32.toInt_inj.mp hc
      refine g_pc 97 (by rw [hc]; rfl) ?_
      refine g_aload_n X dX7_count_97 rfl 0 rfl rfl ?_
      refine gM_get_at X dX7_count_98 hinX70 hl7 rfl ?_
      refine g_bipush (v := (77 : Int32)) X dX7_count_101 (by decide) rfl ?_
      refine g_iload_n X dX7_count_103 rfl 1 rfl rfl ?_
      refine g_iadd X dX7_count_104 rfl ?_
      refine g_iconst (v := (3 : Int32)) X dX7_count_105 (by decide) rfl ?_
      refine g_isub X dX7_count_106 rfl ?_
      refine gM_ld_at X dX7_count_107 (k := 81) (by rw [ec1]; decide) (by decide) rfl ?_
      refine g_retW X hr (by first | rfl | exact b2i_nar _) dX7_count_108 hAe ?_
      exact rdPost_i (by simp [countS, *])
    · have ec1 : w = (8 : Int32) := Int32.toInt_inj.mp hc
      refine g_pc 97 (by rw [hc]; rfl) ?_
      refine g_aload_n X dX7_count_97 rfl 0 rfl rfl ?_
      refine gM_get_at X dX7_count_98 hinX70 hl7 rfl ?_
      refine g_bipush (v := (77 : Int32)) X dX7_count_101 (by decide) rfl ?_
      refine g_iload_n X dX7_count_103 rfl 1 rfl rfl ?_
      refine g_iadd X dX7_count_104 rfl ?_
      refine g_iconst (v := (3 : Int32)) X dX7_count_105 (by decide) rfl ?_
      refine g_isub X dX7_count_106 rfl ?_
      refine gM_ld_at X dX7_count_107 (k := 82) (by rw [ec1]; decide) (by decide) rfl ?_
      refine g_retW X hr (by first | rfl | exact b2i_nar _) dX7_count_108 hAe ?_
      exact rdPost_i (by simp [countS, *])
    · have ec1 : w = (9 : Int32) := Int32.toInt_inj.mp hc
      refine g_pc 109 (by rw [hc]; rfl) ?_
      refine g_aload_n X dX7_count_109 rfl 0 rfl rfl ?_
      refine gM_get_at X dX7_count_110 hinX70 hl7 rfl ?_
      refine g_iload_n X dX7_count_113 rfl 1 rfl rfl ?_
      refine g_bipush (v := (9 : Int32)) X dX7_count_114 (by decide) rfl ?_
      refine g_isub X dX7_count_116 rfl ?_
      refine gM_ld_at X dX7_count_117 (k := 0) (by rw [ec1]; decide) (by decide) rfl ?_
      refine g_retW X hr (by first | rfl | exact b2i_nar _) dX7_count_118 hAe ?_
      exact rdPost_i (by simp [countS, *])
    · have ec1 : w = (10 : Int32) := Int32.toInt_inj.mp hc
      refine g_pc 109 (by rw [hc]; rfl) ?_
      refine g_aload_n X dX7_count_109 rfl 0 rfl rfl ?_
      refine gM_get_at X dX7_count_110 hinX70 hl7 rfl ?_
      refine g_iload_n X dX7_count_113 rfl 1 rfl rfl ?_
      refine g_bipush (v := (9 : Int32)) X dX7_count_114 (by decide) rfl ?_
      refine g_isub X dX7_count_116 rfl ?_
      refine gM_ld_at X dX7_count_117 (k := 1) (by rw [ec1]; decide) (by decide) rfl ?_
      refine g_retW X hr (by first | rfl | exact b2i_nar _) dX7_count_118 hAe ?_
      exact rdPost_i (by simp [countS, *])
    · have ec1 : w = (11 : Int32) := Int32.toInt_inj.mp hc
      refine g_pc 109 (by rw [hc]; rfl) ?_
      refine g_aload_n X dX7_count_109 rfl 0 rfl rfl ?_
      refine gM_get_at X dX7_count_110 hinX70 hl7 rfl ?_
      refine g_iload_n X dX7_count_113 rfl 1 rfl rfl ?_
      refine g_bipush (v := (9 : Int32)) X dX7_count_114 (by decide) rfl ?_
      refine g_isub X dX7_count_116 rfl ?_
      refine gM_ld_at X dX7_count_117 (k := 2) (by rw [ec1]; decide) (by decide) rfl ?_
      refine g_retW X hr (by first | rfl | exact b2i_nar _) dX7_count_118 hAe ?_
      exact rdPost_i (by simp [countS, *])
    · have ec1 : w = (12 : Int32) := Int32.toInt_inj.mp hc
      refine g_pc 109 (by rw [hc]; rfl) ?_
      refine g_aload_n X dX7_count_109 rfl 0 rfl rfl ?_
      refine gM_get_at X dX7_count_110 hinX70 hl7 rfl ?_
      refine g_iload_n X dX7_count_113 rfl 1 rfl rfl ?_
      refine g_bipush (v := (9 : Int32)) X dX7_count_114 (by decide) rfl ?_
      refine g_isub X dX7_count_116 rfl ?_
      refine gM_ld_at X dX7_count_117 (k := 3) (by rw [ec1]; decide) (by decide) rfl ?_
      refine g_retW X hr (by first | rfl | exact b2i_nar _) dX7_count_118 hAe ?_
      exact rdPost_i (by simp [countS, *])
    · have ec1 : w = (13 : Int32) := Int32.toInt_inj.mp hc
      refine g_pc 119 (by rw [hc]; rfl) ?_
      refine g_aload_n X dX7_count_119 rfl 0 rfl rfl ?_
      refine gM_get_padMany X dX7_count_120 hinX70 hl184 rfl ?_
      refine g_retW X hr (by first | rfl | exact b2i_nar _) dX7_count_123 hAe ?_
      exact rdPost_i (by simp [countS, *])
    · have ec1 : w = (14 : Int32) := Int32.toInt_inj.mp hc
      refine g_pc 124 (by rw [hc]; rfl) ?_
      refine g_aload_n X dX7_count_124 rfl 0 rfl rfl ?_
      refine gM_get_pastMany X dX7_count_125 hinX70 hl46 rfl ?_
      refine g_retW X hr (by first | rfl | exact b2i_nar _) dX7_count_128 hAe ?_
      exact rdPost_i (by simp [countS, *])
  · have ne0 : ¬ w = (0 : Int32) := fun z => by rw [z] at hd; exact absurd hd (by decide)
    have ne1 : ¬ w = (1 : Int32) := fun z => by rw [z] at hd; exact absurd hd (by decide)
    have ne2 : ¬ w = (2 : Int32) := fun z => by rw [z] at hd; exact absurd hd (by decide)
    have ne3 : ¬ w = (3 : Int32) := fun z => by rw [z] at hd; exact absurd hd (by decide)
    have ne4 : ¬ w = (4 : Int32) := fun z => by rw [z] at hd; exact absurd hd (by decide)
    have ne5 : ¬ w = (5 : Int32) := fun z => by rw [z] at hd; exact absurd hd (by decide)
    have ne6 : ¬ w = (6 : Int32) := fun z => by rw [z] at hd; exact absurd hd (by decide)
    have ne7 : ¬ w = (7 : Int32) := fun z => by rw [z] at hd; exact absurd hd (by decide)
    have ne8 : ¬ w = (8 : Int32) := fun z => by rw [z] at hd; exact absurd hd (by decide)
    have ne9 : ¬ w = (9 : Int32) := fun z => by rw [z] at hd; exact absurd hd (by decide)
    have ne10 : ¬ w = (10 : Int32) := fun z => by rw [z] at hd; exact absurd hd (by decide)
    have ne11 : ¬ w = (11 : Int32) := fun z => by rw [z] at hd; exact absurd hd (by decide)
    have ne12 : ¬ w = (12 : Int32) := fun z => by rw [z] at hd; exact absurd hd (by decide)
    have ne13 : ¬ w = (13 : Int32) := fun z => by rw [z] at hd; exact absurd hd (by decide)
    have ne14 : ¬ w = (14 : Int32) := fun z => by rw [z] at hd; exact absurd hd (by decide)
    refine g_bipush (v := ((-2) : Int32)) X dX7_count_129 (by decide) rfl ?_
    refine g_retW X hr (by first | rfl | exact b2i_nar _) dX7_count_131 hAe ?_
    exact rdPost_i (by simp [countS, *])

set_option maxHeartbeats 4000000 in
set_option maxRecDepth 100000 in
theorem c_X7_ended (l : Launch) (D : DT) (a : Nat → Nat) (fa fp fs fv fg fw fd ft fn : Nat → Int32) (p1 pm wk dm sp iw od : Int32) (x : Int32) : MR l yX7_ended wsX7_ended 1 22 D [.ref (a 0), .int x] (wM D a fa fp fs fv fg fw fd ft fn p1 pm wk dm sp iw od) (fun v => v = some (.int (endedS fa x))) := by
  refine MR.of (cc := cX7_ended) (maxL := 2) (ret := (some .int)) (lv := [(0, .ref (a 0)), (1, .int x)]) (by decide +kernel) rfl (Nat.le_of_ble_eq_true rfl) rfl ?_
  intro p e s m below meth c A X hr hmn
  have hinX70 : ∀ w ∈ wsX70, w ∈ wsX7_ended := fun w h => List.mem_cons_of_mem _ (List.mem_append_right _ h)
  have hl7 := List.mem_of_getElem? (l := wsX7_ended) (i := 1) rfl
  have e07 : decide ((0 : Int) ≤ x.toInt ∧ x.toInt ≤ (6 : Int)) = rng 7 x := by unfold rng; exact decide_eq_decide.mpr ⟨fun h => by omega, fun h => by omega⟩
  refine g_iload_n X dX7_ended_0 rfl 1 rfl rfl ?_
  refine g_iconst (v := (0 : Int32)) X dX7_ended_1 (by decide) rfl ?_
  refine g_bipush (v := (6 : Int32)) X dX7_ended_2 (by decide) rfl ?_
  refine g_callSR (n := 3) (As := [_, _, _]) (rest := []) X (c_X7_in l D _ _ _) gX7_ended_X7_in rfl (by decide +kernel) ⟨Nat.le_of_ble_eq_true rfl, Nat.le_of_ble_eq_true rfl⟩ [] rfl rfl rfl rfl (Nat.le_of_ble_eq_true rfl) dX7_ended_4 ⟨Nat.le_of_ble_eq_true rfl, Nat.le_of_ble_eq_true rfl⟩ rfl (fun v hv => ?_)
  obtain rfl := hv
  refine g_st (st' := [_]) rfl ?_
  refine g_topi (y := b2i (rng 7 x)) (congrArg b2i e07) ?_
  refine g_if_eq X dX7_ended_7 22 (by decide) rfl (fun h7 => ?_) (fun h7 => ?_)
  · replace h7 := b2i_0 h7
    refine g_bipush (v := ((-2) : Int32)) X dX7_ended_22 (by decide) rfl ?_
    refine g_retR X hr (by first | rfl | exact b2i_nar _) dX7_ended_24 ?_
    refine congrArg (fun x => some (Value.int x)) ?_
    simp [endedS, *]
  · replace h7 := b2i_n0 h7
    obtain ⟨q, hq, rfl⟩ := rng_nI h7
    have hcx := nI_clamp (n := q) (by omega)
    refine g_aload_n X dX7_ended_10 rfl 0 rfl rfl ?_
    refine gM_get_at X dX7_ended_11 hinX70 hl7 rfl ?_
    refine g_bipush (v := (83 : Int32)) X dX7_ended_14 (by decide) rfl ?_
    refine g_iload_n X dX7_ended_16 rfl 1 rfl rfl ?_
    refine g_iadd X dX7_ended_17 rfl ?_
    refine g_topi (y := nI (83 + q)) (nI_add (83) (q)) ?_
    refine gM_ld_at X dX7_ended_18 (by first | rfl | assumption) (by omega) rfl ?_
    refine g_goto X dX7_ended_19 24 (by decide) ?_
    refine g_retR X hr (by first | rfl | exact b2i_nar _) dX7_ended_24 ?_
    refine congrArg (fun x => some (Value.int x)) ?_
    simp [endedS, *]

set_option maxHeartbeats 4000000 in
set_option maxRecDepth 100000 in
theorem c_X7_walk (l : Launch) (D : DT) (a : Nat → Nat) (fa fp fs fv fg fw fd ft fn : Nat → Int32) (p1 pm wk dm sp iw od : Int32) (mk nn b : Nat) (hW : WF fa mk nn b) (g d nd w : Int32) : MW l yX7_walk wsX7_walk 4 95 0 0 D [.ref (a 0), .int g, .int d, .int nd, .int w] (wM D a fa fp fs fv fg fw fd ft fn p1 pm wk dm sp iw od) (rdPost D a fa fp fs fv fw fd ft fn p1 pm dm sp iw od (.int (walkS fa g d nd w))) := by
  refine MW.of (cc := cX7_walk) (maxL := 6) (ret := (some .int)) (lv := [(0, .ref (a 0)), (1, .int g), (2, .int d), (3, .int nd), (4, .int w)]) (by decide +kernel) rfl (Nat.le_of_ble_eq_true rfl) rfl ?_
  intro p e s m below meth c A hAe hAg X hr hmn
  have hinX70 : ∀ w ∈ wsX70, w ∈ wsX7_walk := fun w h => List.mem_cons_of_mem _ (List.mem_append_right _ h)
  have hl66 := List.mem_of_getElem? (l := wsX7_walk) (i := 1) rfl
  obtain ⟨hmk, h40, hnn, hb0, hb1, hb8, hnb, hst, hnk, how, hdo, hs1, hs2, hs3, hZF⟩ := id hW
  have e02 : decide ((0 : Int) ≤ w.toInt ∧ w.toInt ≤ (1 : Int)) = rng 2 w := by unfold rng; exact decide_eq_decide.mpr ⟨fun h => by omega, fun h => by omega⟩
  refine g_iload_n X dX7_walk_0 rfl 1 rfl rfl ?_
  refine g_iload_n X dX7_walk_1 rfl 2 rfl rfl ?_
  refine g_callSR (n := 2) (As := [_, _]) (rest := []) X (c_X7_isDoor l D _ _) gX7_walk_X7_isDoor rfl (by decide +kernel) ⟨Nat.le_of_ble_eq_true rfl, Nat.le_of_ble_eq_true rfl⟩ [] rfl rfl rfl rfl (Nat.le_of_ble_eq_true rfl) dX7_walk_2 ⟨Nat.le_of_ble_eq_true rfl, Nat.le_of_ble_eq_true rfl⟩ rfl (fun v hv => ?_)
  obtain rfl := hv
  refine g_st (st' := [_]) rfl ?_
  refine g_if_ne X dX7_walk_5 10 (by decide) rfl (fun h5 => ?_) (fun h5 => ?_)
  · replace h5 := b2i_n0 h5
    refine g_iload_n X dX7_walk_10 rfl 3 rfl rfl ?_
    refine g_iconst (v := (1 : Int32)) X dX7_walk_11 (by decide) rfl ?_
    refine g_icmp_eq X dX7_walk_12 20 (by decide) rfl (fun h12 => ?_) (fun h12 => ?_)
    · refine g_iload X dX7_walk_20 4 rfl rfl ?_
      refine g_iconst (v := (0 : Int32)) X dX7_walk_22 (by decide) rfl ?_
      refine g_iconst (v := (1 : Int32)) X dX7_walk_23 (by decide) rfl ?_
      refine g_callSR (n := 3) (As := [_, _, _]) (rest := []) X (c_X7_in l D _ _ _) gX7_walk_X7_in rfl (by decide +kernel) ⟨Nat.le_of_ble_eq_true rfl, Nat.le_of_ble_eq_true rfl⟩ [] rfl rfl rfl rfl (Nat.le_of_ble_eq_true rfl) dX7_walk_24 ⟨Nat.le_of_ble_eq_true rfl, Nat.le_of_ble_eq_true rfl⟩ rfl (fun v hv => ?_)
      obtain rfl := hv
      refine g_st (st' := [_]) rfl ?_
      refine g_topi (y := b2i (rng 2 w)) (congrArg b2i e02) ?_
      refine g_if_ne X dX7_walk_27 33 (by decide) rfl (fun h27 => ?_) (fun h27 => ?_)
      · replace h27 := b2i_n0 h27
        obtain ⟨gq, hgq, egq⟩ := rng_nI (Bool.and_eq_true_iff.mp h5).1
        obtain ⟨dq, hdq, edq⟩ := rng_nI (Bool.and_eq_true_iff.mp h5).2
        subst egq; subst edq
        have hcg := nI_clamp (n := gq) (by omega)
        have hcd := nI_clamp (n := dq) (by omega)
        have hnd : nd = 1 ∨ nd = 2 := by first | exact Or.inl h12 | exact Or.inr h17
        refine g_aload_n X dX7_walk_33 rfl 0 rfl rfl ?_
        refine g_iload_n X dX7_walk_34 rfl 1 rfl rfl ?_
        refine g_iload_n X dX7_walk_35 rfl 2 rfl rfl ?_
        refine g_iload_n X dX7_walk_36 rfl 3 rfl rfl ?_
        refine g_callVWs (n := 3) (As := [_, _, _]) (rest := []) X hAg rfl (c_X7_reasonOf l D _ _ _ _ _ _ _ _ _ _ _ _ _ _ _ _ _  mk h40 hst gq dq hgq hdq nd (hdo _ (by omega))) gX7_walk_X7_reasonOf rfl (by decide +kernel) ⟨Nat.le_of_ble_eq_true rfl, Nat.le_of_ble_eq_true rfl⟩ rfl rfl  rfl rfl (Nat.le_of_ble_eq_true rfl) dX7_walk_37 ⟨Nat.le_of_ble_eq_true rfl, Nat.le_of_ble_eq_true rfl⟩ rfl (fun v w hv => ?_)
        obtain ⟨rfl, rfl⟩ := hv
        refine ⟨rfl, ?_⟩
        refine g_st (st' := [_]) rfl ?_
        refine g_istore X [(5, _), (0, _), (1, _), (2, _), (3, _), (4, _)] dX7_walk_40 (by decide) rfl rfl ?_
        refine g_iload X dX7_walk_42 5 rfl rfl ?_
        refine g_if_ne X dX7_walk_44 52 (by decide) rfl (fun h44 => ?_) (fun h44 => ?_)
        · refine g_aload_n X dX7_walk_52 rfl 1 rfl rfl ?_
          refine gM_get_walked X dX7_walk_53 hinX70 hl66 rfl ?_
          refine g_retW X hr (by first | rfl | exact b2i_nar _) dX7_walk_56 hAe ?_
          exact rdPost_i (by unfold walkS; rw [if_pos h5, if_pos ⟨hnd, h27⟩, hcg, hcd]; first | rw [if_pos h44] | rw [if_neg h44])
        · refine g_iload X dX7_walk_47 0 rfl rfl ?_
          refine g_goto X dX7_walk_49 56 (by decide) ?_
          refine g_retW X hr (by first | rfl | exact b2i_nar _) dX7_walk_56 hAe ?_
          exact rdPost_i (by unfold walkS; rw [if_pos h5, if_pos ⟨hnd, h27⟩, hcg, hcd]; first | rw [if_pos h44] | rw [if_neg h44])
      · replace h27 := b2i_0 h27
        refine g_bipush (v := ((-2) : Int32)) X dX7_walk_30 (by decide) rfl ?_
        refine g_retW X hr (by first | rfl | exact b2i_nar _) dX7_walk_32 hAe ?_
        exact rdPost_i (by unfold walkS; rw [if_pos h5, if_neg (by intro z; first | (rw [h27] at z; exact Bool.false_ne_true z.2) | (rcases z.1 with y | y; exact h12 y; exact h17 y))])
    · refine g_iload_n X dX7_walk_15 rfl 3 rfl rfl ?_
      refine g_iconst (v := (2 : Int32)) X dX7_walk_16 (by decide) rfl ?_
      refine g_icmp_ne X dX7_walk_17 30 (by decide) rfl (fun h17 => ?_) (fun h17 => ?_)
      · refine g_bipush (v := ((-2) : Int32)) X dX7_walk_30 (by decide) rfl ?_
        refine g_retW X hr (by first | rfl | exact b2i_nar _) dX7_walk_32 hAe ?_
        exact rdPost_i (by unfold walkS; rw [if_pos h5, if_neg (by intro z; first | (rw [h27] at z; exact Bool.false_ne_true z.2) | (rcases z.1 with y | y; exact h12 y; exact h17 y))])
      · refine g_iload X dX7_walk_20 4 rfl rfl ?_
        refine g_iconst (v := (0 : Int32)) X dX7_walk_22 (by decide) rfl ?_
        refine g_iconst (v := (1 : Int32)) X dX7_walk_23 (by decide) rfl ?_
        refine g_callSR (n := 3) (As := [_, _, _]) (rest := []) X (c_X7_in l D _ _ _) gX7_walk_X7_in rfl (by decide +kernel) ⟨Nat.le_of_ble_eq_true rfl, Nat.le_of_ble_eq_true rfl⟩ [] rfl rfl rfl rfl (Nat.le_of_ble_eq_true rfl) dX7_walk_24 ⟨Nat.le_of_ble_eq_true rfl, Nat.le_of_ble_eq_true rfl⟩ rfl (fun v hv => ?_)
        obtain rfl := hv
        refine g_st (st' := [_]) rfl ?_
        refine g_topi (y := b2i (rng 2 w)) (congrArg b2i e02) ?_
        refine g_if_ne X dX7_walk_27 33 (by decide) rfl (fun h27 => ?_) (fun h27 => ?_)
        · replace h27 := b2i_n0 h27
          obtain ⟨gq, hgq, egq⟩ := rng_nI (Bool.and_eq_true_iff.mp h5).1
          obtain ⟨dq, hdq, edq⟩ := rng_nI (Bool.and_eq_true_iff.mp h5).2
          subst egq; subst edq
          have hcg := nI_clamp (n := gq) (by omega)
          have hcd := nI_clamp (n := dq) (by omega)
          have hnd : nd = 1 ∨ nd = 2 := by first | exact Or.inl h12 | exact Or.inr h17
          refine g_aload_n X dX7_walk_33 rfl 0 rfl rfl ?_
          refine g_iload_n X dX7_walk_34 rfl 1 rfl rfl ?_
          refine g_iload_n X dX7_walk_35 rfl 2 rfl rfl ?_
          refine g_iload_n X dX7_walk_36 rfl 3 rfl rfl ?_
          refine g_callVWs (n := 3) (As := [_, _, _]) (rest := []) X hAg rfl (c_X7_reasonOf l D _ _ _ _ _ _ _ _ _ _ _ _ _ _ _ _ _  mk h40 hst gq dq hgq hdq nd (hdo _ (by omega))) gX7_walk_X7_reasonOf rfl (by decide +kernel) ⟨Nat.le_of_ble_eq_true rfl, Nat.le_of_ble_eq_true rfl⟩ rfl rfl  rfl rfl (Nat.le_of_ble_eq_true rfl) dX7_walk_37 ⟨Nat.le_of_ble_eq_true rfl, Nat.le_of_ble_eq_true rfl⟩ rfl (fun v w hv => ?_)
          obtain ⟨rfl, rfl⟩ := hv
          refine ⟨rfl, ?_⟩
          refine g_st (st' := [_]) rfl ?_
          refine g_istore X [(5, _), (0, _), (1, _), (2, _), (3, _), (4, _)] dX7_walk_40 (by decide) rfl rfl ?_
          refine g_iload X dX7_walk_42 5 rfl rfl ?_
          refine g_if_ne X dX7_walk_44 52 (by decide) rfl (fun h44 => ?_) (fun h44 => ?_)
          · refine g_aload_n X dX7_walk_52 rfl 1 rfl rfl ?_
            refine gM_get_walked X dX7_walk_53 hinX70 hl66 rfl ?_
            refine g_retW X hr (by first | rfl | exact b2i_nar _) dX7_walk_56 hAe ?_
            exact rdPost_i (by unfold walkS; rw [if_pos h5, if_pos ⟨hnd, h27⟩, hcg, hcd]; first | rw [if_pos h44] | rw [if_neg h44])
          · refine g_iload X dX7_walk_47 0 rfl rfl ?_
            refine g_goto X dX7_walk_49 56 (by decide) ?_
            refine g_retW X hr (by first | rfl | exact b2i_nar _) dX7_walk_56 hAe ?_
            exact rdPost_i (by unfold walkS; rw [if_pos h5, if_pos ⟨hnd, h27⟩, hcg, hcd]; first | rw [if_pos h44] | rw [if_neg h44])
        · replace h27 := b2i_0 h27
          refine g_bipush (v := ((-2) : Int32)) X dX7_walk_30 (by decide) rfl ?_
          refine g_retW X hr (by first | rfl | exact b2i_nar _) dX7_walk_32 hAe ?_
          exact rdPost_i (by unfold walkS; rw [if_pos h5, if_neg (by intro z; first | (rw [h27] at z; exact Bool.false_ne_true z.2) | (rcases z.1 with y | y; exact h12 y; exact h17 y))])
  · replace h5 := b2i_0 h5
    refine g_iconst (v := ((-1) : Int32)) X dX7_walk_8 (by decide) rfl ?_
    refine g_retW X hr (by first | rfl | exact b2i_nar _) dX7_walk_9 hAe ?_
    exact rdPost_i (by unfold walkS; rw [if_neg (by rw [h5]; exact Bool.false_ne_true)])

set_option maxHeartbeats 4000000 in
set_option maxRecDepth 100000 in
theorem c_X7_hiddenBy (l : Launch) (D : DT) (a : Nat → Nat) (fa fp fs fv fg fw fd ft fn : Nat → Int32) (p1 pm wk dm sp iw od : Int32) (mk nn b : Nat) (hW : WF fa mk nn b) (q : Nat) (hq : q < mk) : MW l yX7_hiddenBy wsX7_hiddenBy 3 67 0 0 D [.ref (a 0), .int (nI q)] (wM D a fa fp fs fv fg fw fd ft fn p1 pm wk dm sp iw od) (fun v w => v = some (.int (hidM fa q mk)) ∧ w = (wM D a fa fp fs fv (fgI (up fa (127 + 7 * q + 6) 1) (fgI fa fg mk) mk) fw fd ft fn p1 pm wk dm sp iw od)) := by
  refine MW.of (cc := cX7_hiddenBy) (maxL := 6) (ret := (some .int)) (lv := [(0, .ref (a 0)), (1, .int (nI q))]) (by decide +kernel) rfl (Nat.le_of_ble_eq_true rfl) rfl ?_
  intro p e s m below meth c A hAe hAg X hr hmn
  have hinX70 : ∀ w ∈ wsX70, w ∈ wsX7_hiddenBy := fun w h => List.mem_cons_of_mem _ (List.mem_append_right _ h)
  have hl7 := List.mem_of_getElem? (l := wsX7_hiddenBy) (i := 1) rfl
  obtain ⟨hmk, h40, hnn, hb0, hb1, hb8, hnb, hst, hnk, how, hdo, hs1, hs2, hs3, hZF⟩ := id hW
  obtain ⟨⟨pg, hpg, epg⟩, -⟩ := id (hst q hq)
  have hcpg : (ofM fa q 0).toNatClampNeg = pg := by rw [epg]; exact nI_clamp (by omega)
  refine g_aload_n X dX7_hiddenBy_0 rfl 0 rfl rfl ?_
  refine g_iload_n X dX7_hiddenBy_1 rfl 1 rfl rfl ?_
  refine g_iconst (v := (0 : Int32)) X dX7_hiddenBy_2 (by decide) rfl ?_
  refine g_callVRs (n := 2) (As := [_, _]) (rest := []) X (c_X7_of l D _ _ _ _ _ _ _ _ _ _ _ _ _ _ _ _ _  (q) (0) (by omega) (by omega)) gX7_hiddenBy_X7_of rfl (by decide +kernel) ⟨Nat.le_of_ble_eq_true rfl, Nat.le_of_ble_eq_true rfl⟩ rfl rfl  rfl rfl (Nat.le_of_ble_eq_true rfl) dX7_hiddenBy_3 ⟨Nat.le_of_ble_eq_true rfl, Nat.le_of_ble_eq_true rfl⟩ rfl (fun v hv => ?_)
  obtain rfl := hv
  refine g_st (st' := [_]) rfl ?_
  refine g_topi (epg) ?_
  refine g_istore_n X [(2, _), (0, _), (1, _)] dX7_hiddenBy_6 rfl (by decide) rfl rfl ?_
  refine g_aload_n X dX7_hiddenBy_7 rfl 1 rfl rfl ?_
  refine g_iload_n X dX7_hiddenBy_8 rfl 2 rfl rfl ?_
  refine g_bipush (v := (6 : Int32)) X dX7_hiddenBy_9 (by decide) rfl ?_
  refine g_callVRs (n := 2) (As := [_, _]) (rest := []) X (c_X7_of l D _ _ _ _ _ _ _ _ _ _ _ _ _ _ _ _ _  (q) (6) (by omega) (by omega)) gX7_hiddenBy_X7_of rfl (by decide +kernel) ⟨Nat.le_of_ble_eq_true rfl, Nat.le_of_ble_eq_true rfl⟩ rfl rfl  rfl rfl (Nat.le_of_ble_eq_true rfl) dX7_hiddenBy_11 ⟨Nat.le_of_ble_eq_true rfl, Nat.le_of_ble_eq_true rfl⟩ rfl (fun v hv => ?_)
  obtain rfl := hv
  refine g_st (st' := [_]) rfl ?_
  refine g_istore_n X [(3, _), (2, _), (0, _), (1, _)] dX7_hiddenBy_14 rfl (by decide) rfl rfl ?_
  refine g_aload_n X dX7_hiddenBy_15 rfl 2 rfl rfl ?_
  refine g_callVWs (n := 0) (As := []) (rest := []) X hAg rfl (c_X7_findGood l D _ _ _ _ _ _ _ _ _ _ _ _ _ _ _ _ _  mk hmk h40 hst) gX7_hiddenBy_X7_findGood rfl (by decide +kernel) ⟨Nat.le_of_ble_eq_true rfl, Nat.le_of_ble_eq_true rfl⟩ rfl rfl  rfl rfl (Nat.le_of_ble_eq_true rfl) dX7_hiddenBy_16 ⟨Nat.le_of_ble_eq_true rfl, Nat.le_of_ble_eq_true rfl⟩ rfl (fun v w hv => ?_)
  obtain ⟨rfl, rfl⟩ := hv
  refine ⟨rfl, ?_⟩
  refine g_st (st' := []) rfl ?_
  refine g_aload_n X dX7_hiddenBy_19 rfl 2 rfl rfl ?_
  refine g_iload_n X dX7_hiddenBy_20 rfl 1 rfl rfl ?_
  refine g_iconst (v := (1 : Int32)) X dX7_hiddenBy_21 (by decide) rfl ?_
  refine g_callVRs (n := 2) (As := [_, _]) (rest := []) X (c_X7_whoCan l D _ _ _ _ _ _ _ _ _ _ _ _ _ _ _ _ _  mk hmk h40 hst (gd fa) (fun s hs => fgI_lt hs) pg hpg 1) gX7_hiddenBy_X7_whoCan rfl (by decide +kernel) ⟨Nat.le_of_ble_eq_true rfl, Nat.le_of_ble_eq_true rfl⟩ rfl rfl  rfl rfl (Nat.le_of_ble_eq_true rfl) dX7_hiddenBy_22 ⟨Nat.le_of_ble_eq_true rfl, Nat.le_of_ble_eq_true rfl⟩ rfl (fun v hv => ?_)
  obtain rfl := hv
  refine g_st (st' := [_]) rfl ?_
  refine g_istore X [(4, _), (3, _), (2, _), (0, _), (1, _)] dX7_hiddenBy_25 (by decide) rfl rfl ?_
  refine g_aload_n X dX7_hiddenBy_27 rfl 3 rfl rfl ?_
  refine gM_get_at X dX7_hiddenBy_28 hinX70 hl7 rfl ?_
  refine g_bipush (v := (127 : Int32)) X dX7_hiddenBy_31 (by decide) rfl ?_
  refine g_bipush (v := (7 : Int32)) X dX7_hiddenBy_33 (by decide) rfl ?_
  refine g_iload_n X dX7_hiddenBy_35 rfl 4 rfl rfl ?_
  refine g_imul X dX7_hiddenBy_36 rfl ?_
  refine g_topi (y := nI (7 * q)) (pk_mul (7) (q)) ?_
  refine g_iadd X dX7_hiddenBy_37 rfl ?_
  refine g_topi (y := nI (127 + (7 * q))) (nI_add (127) ((7 * q))) ?_
  refine g_bipush (v := (6 : Int32)) X dX7_hiddenBy_38 (by decide) rfl ?_
  refine g_iadd X dX7_hiddenBy_40 rfl ?_
  refine g_topi (y := nI ((127 + (7 * q)) + 6)) (nI_add ((127 + (7 * q))) (6)) ?_
  refine g_iconst (v := (1 : Int32)) X dX7_hiddenBy_41 (by decide) rfl ?_
  refine gM_st_at X rfl dX7_hiddenBy_42 (by first | rfl | assumption) (by omega) rfl ?_
  have hmk1 : (up fa (127 + 7 * q + 6) 1) 76 = nI mk := by rw [up_n _ _ (by omega)]; exact hmk
  have hst1 : ∀ s, s < mk → stOK (up fa (127 + 7 * q + 6) 1) s := fun s hs => stOK_b6 s q (hst s hs)
  refine g_aload_n X dX7_hiddenBy_43 rfl 3 rfl rfl ?_
  refine g_callVWs (n := 0) (As := []) (rest := []) X hAg rfl (c_X7_findGood l D _ _ _ _ _ _ _ _ _ _ _ _ _ _ _ _ _  mk hmk1 h40 hst1) gX7_hiddenBy_X7_findGood rfl (by decide +kernel) ⟨Nat.le_of_ble_eq_true rfl, Nat.le_of_ble_eq_true rfl⟩ rfl rfl  rfl rfl (Nat.le_of_ble_eq_true rfl) dX7_hiddenBy_44 ⟨Nat.le_of_ble_eq_true rfl, Nat.le_of_ble_eq_true rfl⟩ rfl (fun v w hv => ?_)
  obtain ⟨rfl, rfl⟩ := hv
  refine ⟨rfl, ?_⟩
  refine g_st (st' := []) rfl ?_
  refine g_aload_n X dX7_hiddenBy_47 rfl 3 rfl rfl ?_
  refine g_iload_n X dX7_hiddenBy_48 rfl 2 rfl rfl ?_
  refine g_iconst (v := (1 : Int32)) X dX7_hiddenBy_49 (by decide) rfl ?_
  refine g_callVRs (n := 2) (As := [_, _]) (rest := []) X (c_X7_whoCan l D _ _ _ _ _ _ _ _ _ _ _ _ _ _ _ _ _  mk hmk1 h40 hst1 (gd (up fa (127 + 7 * q + 6) 1)) (fun s hs => fgI_lt hs) pg hpg 1) gX7_hiddenBy_X7_whoCan rfl (by decide +kernel) ⟨Nat.le_of_ble_eq_true rfl, Nat.le_of_ble_eq_true rfl⟩ rfl rfl  rfl rfl (Nat.le_of_ble_eq_true rfl) dX7_hiddenBy_50 ⟨Nat.le_of_ble_eq_true rfl, Nat.le_of_ble_eq_true rfl⟩ rfl (fun v hv => ?_)
  obtain rfl := hv
  refine g_st (st' := [_]) rfl ?_
  refine g_istore X [(5, _), (4, _), (3, _), (2, _), (0, _), (1, _)] dX7_hiddenBy_53 (by decide) rfl rfl ?_
  refine g_aload_n X dX7_hiddenBy_55 rfl 4 rfl rfl ?_
  refine gM_get_at X dX7_hiddenBy_56 hinX70 hl7 rfl ?_
  refine g_bipush (v := (127 : Int32)) X dX7_hiddenBy_59 (by decide) rfl ?_
  refine g_bipush (v := (7 : Int32)) X dX7_hiddenBy_61 (by decide) rfl ?_
  refine g_iload_n X dX7_hiddenBy_63 rfl 5 rfl rfl ?_
  refine g_imul X dX7_hiddenBy_64 rfl ?_
  refine g_topi (y := nI (7 * q)) (pk_mul (7) (q)) ?_
  refine g_iadd X dX7_hiddenBy_65 rfl ?_
  refine g_topi (y := nI (127 + (7 * q))) (nI_add (127) ((7 * q))) ?_
  refine g_bipush (v := (6 : Int32)) X dX7_hiddenBy_66 (by decide) rfl ?_
  refine g_iadd X dX7_hiddenBy_68 rfl ?_
  refine g_topi (y := nI ((127 + (7 * q)) + 6)) (nI_add ((127 + (7 * q))) (6)) ?_
  refine g_iload_n X dX7_hiddenBy_69 rfl 2 rfl rfl ?_
  refine gM_st_at X rfl dX7_hiddenBy_70 (by first | rfl | assumption) (by omega) rfl ?_
  refine g_ws (wM_fa (show up (up fa (127 + 7 * q + 6) 1) (127 + 7 * q + 6) (ofM fa q 6) = fa from by have h9 : ofM fa q 6 = fa (127 + 7 * q + 6) := congrArg fa (by omega); rw [h9]; exact up_back fa _ _)) ?_
  refine g_iload X dX7_hiddenBy_71 1 rfl rfl ?_
  refine g_iload X dX7_hiddenBy_73 0 rfl rfl ?_
  refine g_iconst (v := ((-1) : Int32)) X dX7_hiddenBy_75 (by decide) rfl ?_
  refine g_ixor X dX7_hiddenBy_76 rfl ?_
  refine g_iand X dX7_hiddenBy_77 rfl ?_
  refine g_retW X hr (by first | rfl | exact b2i_nar _) dX7_hiddenBy_78 hAe ?_
  refine ⟨?_, rfl⟩
  unfold hidM
  rw [hcpg]

set_option maxHeartbeats 4000000 in
set_option maxRecDepth 100000 in
theorem c_X7_hides (l : Launch) (D : DT) (a : Nat → Nat) (fa fp fs fv fg fw fd ft fn : Nat → Int32) (p1 pm wk dm sp iw od : Int32) (mk nn b : Nat) (hW : WF fa mk nn b) (x : Int32) : MW l yX7_hides wsX7_hides 4 92 0 0 D [.ref (a 0), .int x] (wM D a fa fp fs fv fg fw fd ft fn p1 pm wk dm sp iw od) (rdPost D a fa fp fs fv fw fd ft fn p1 pm dm sp iw od (.int (hidesS fa x))) := by
  refine MW.of (cc := cX7_hides) (maxL := 2) (ret := (some .int)) (lv := [(0, .ref (a 0)), (1, .int x)]) (by decide +kernel) rfl (Nat.le_of_ble_eq_true rfl) rfl ?_
  intro p e s m below meth c A hAe hAg X hr hmn
  have hinX70 : ∀ w ∈ wsX70, w ∈ wsX7_hides := fun w h => List.mem_cons_of_mem _ (List.mem_append_right _ h)
  obtain ⟨hmk, h40, hnn, hb0, hb1, hb8, hnb, hst, hnk, how, hdo, hs1, hs2, hs3, hZF⟩ := id hW
  have hmkN : mkN fa = mk := by unfold mkN; rw [hmk]; exact nI_clamp (by omega)
  have hnN : nN fa = nn := by unfold nN; rw [hnn]; exact nI_clamp (by omega)
  refine g_aload_n X dX7_hides_0 rfl 0 rfl rfl ?_
  refine g_iload_n X dX7_hides_1 rfl 1 rfl rfl ?_
  refine g_callVRs (n := 1) (As := [_]) (rest := []) X (c_X7_isStamp l D _ _ _ _ _ _ _ _ _ _ _ _ _ _ _ _ _  mk hmk h40 _) gX7_hides_X7_isStamp rfl (by decide +kernel) ⟨Nat.le_of_ble_eq_true rfl, Nat.le_of_ble_eq_true rfl⟩ rfl rfl  rfl rfl (Nat.le_of_ble_eq_true rfl) dX7_hides_2 ⟨Nat.le_of_ble_eq_true rfl, Nat.le_of_ble_eq_true rfl⟩ rfl (fun v hv => ?_)
  obtain rfl := hv
  refine g_st (st' := [_]) rfl ?_
  refine g_if_eq X dX7_hides_5 16 (by decide) rfl (fun h5 => ?_) (fun h5 => ?_)
  · replace h5 := b2i_0 h5
    refine g_iconst (v := ((-1) : Int32)) X dX7_hides_16 (by decide) rfl ?_
    refine g_retW X hr (by first | rfl | exact b2i_nar _) dX7_hides_17 hAe ?_
    exact rdPost_i (by simp [hidesS, *])
  · replace h5 := b2i_n0 h5
    obtain ⟨q, hq, rfl⟩ := rng_nI h5
    have hcx := nI_clamp (n := q) (by omega)
    refine g_aload_n X dX7_hides_8 rfl 0 rfl rfl ?_
    refine g_iload_n X dX7_hides_9 rfl 1 rfl rfl ?_
    refine g_callVWs (n := 1) (As := [_]) (rest := []) X hAg rfl (c_X7_hiddenBy l D _ _ _ _ _ _ _ _ _ _ _ _ _ _ _ _ _  mk nn b hW (q) (by omega)) gX7_hides_X7_hiddenBy rfl (by decide +kernel) ⟨Nat.le_of_ble_eq_true rfl, Nat.le_of_ble_eq_true rfl⟩ rfl rfl  rfl rfl (Nat.le_of_ble_eq_true rfl) dX7_hides_10 ⟨Nat.le_of_ble_eq_true rfl, Nat.le_of_ble_eq_true rfl⟩ rfl (fun v w hv => ?_)
    obtain ⟨rfl, rfl⟩ := hv
    refine ⟨rfl, ?_⟩
    refine g_st (st' := [_]) rfl ?_
    refine g_goto X dX7_hides_13 17 (by decide) ?_
    refine g_retW X hr (by first | rfl | exact b2i_nar _) dX7_hides_17 hAe ?_
    exact rdPost_i (by simp [hidesS, *])

set_option maxHeartbeats 4000000 in
set_option maxRecDepth 100000 in
theorem c_X7_needless (l : Launch) (D : DT) (a : Nat → Nat) (fa fp fs fv fg fw fd ft fn : Nat → Int32) (p1 pm wk dm sp iw od : Int32) (mk nn b : Nat) (hW : WF fa mk nn b) (x : Int32) : MW l yX7_needless wsX7_needless 4 92 0 0 D [.ref (a 0), .int x] (wM D a fa fp fs fv fg fw fd ft fn p1 pm wk dm sp iw od) (rdPost D a fa fp fs fv fw fd ft fn p1 pm dm sp iw od (.long (needlessS fa x))) := by
  refine MW.of (cc := cX7_needless) (maxL := 5) (ret := (some .long)) (lv := [(0, .ref (a 0)), (1, .int x)]) (by decide +kernel) rfl (Nat.le_of_ble_eq_true rfl) rfl ?_
  intro p e s m below meth c A hAe hAg X hr hmn
  have hinX70 : ∀ w ∈ wsX70, w ∈ wsX7_needless := fun w h => List.mem_cons_of_mem _ (List.mem_append_right _ h)
  have hl7 := List.mem_of_getElem? (l := wsX7_needless) (i := 2) rfl
  obtain ⟨hmk, h40, hnn, hb0, hb1, hb8, hnb, hst, hnk, how, hdo, hs1, hs2, hs3, hZF⟩ := id hW
  have hmkN : mkN fa = mk := by unfold mkN; rw [hmk]; exact nI_clamp (by omega)
  have hnN : nN fa = nn := by unfold nN; rw [hnn]; exact nI_clamp (by omega)
  refine g_iload_n X dX7_needless_0 rfl 1 rfl rfl ?_
  refine g_callSR (n := 1) (As := [_]) (rest := []) X (c_X7_isPage l D _) gX7_needless_X7_isPage rfl (by decide +kernel) ⟨Nat.le_of_ble_eq_true rfl, Nat.le_of_ble_eq_true rfl⟩ [] rfl rfl rfl rfl (Nat.le_of_ble_eq_true rfl) dX7_needless_1 ⟨Nat.le_of_ble_eq_true rfl, Nat.le_of_ble_eq_true rfl⟩ rfl (fun v hv => ?_)
  obtain rfl := hv
  refine g_st (st' := [_]) rfl ?_
  refine g_if_ne X dX7_needless_4 11 (by decide) rfl (fun h4 => ?_) (fun h4 => ?_)
  · replace h4 := b2i_n0 h4
    refine g_lconst (v := (0 : Int64)) X dX7_needless_11 (by decide) rfl ?_
    refine g_lstore_n X [(2, _), (0, _), (1, _)] dX7_needless_12 rfl (by decide) rfl rfl ?_
    refine g_iconst (v := (0 : Int32)) X dX7_needless_13 (by decide) rfl ?_
    refine g_istore X [(4, _), (2, _), (0, _), (1, _)] dX7_needless_14 (by decide) rfl rfl ?_
    have L16 : ∀ (n i : Nat) (k : Int64) (fgx : Nat → Int32) (hi : i ≤ mk) (hn : mk - i = n) (hx : k = ndI (fun s => decide (ofM fa s 0 = x) && (gd fa s && decide (hidM fa s mk = 0))) i), GG p l e (wRoom 4 92 0 0) s m ([.ref (a 0), .int x] : List Value).toArray below meth c D A 5 false 0 0 (MQ below (wrQ D (wM D a fa fp fs fv fg fw fd ft fn p1 pm wk dm sp iw od) s.heap.size (rdPost D a fa fp fs fv fw fd ft fn p1 pm dm sp iw od (.long (needlessS fa x)))) ([.ref (a 0), .int x] : List Value).toArray s 0 0 (va_A (wM D a fa fp fs fv fg fw fd ft fn p1 pm wk dm sp iw od) s.heap.size)) (wM D a fa fp fs fv fgx fw fd ft fn p1 pm wk dm sp iw od) 16 [(4, .int (nI i)), (2, .long k), (0, .ref (a 0)), (1, .int x)] [] := by
      intro n
      induction n using Nat.strongRecOn with
      | _ n ih =>
      intro i k fgx hi hn hx
      refine g_iload X dX7_needless_16 0 rfl rfl ?_
      refine g_aload_n X dX7_needless_18 rfl 2 rfl rfl ?_
      refine gM_get_at X dX7_needless_19 hinX70 hl7 rfl ?_
      refine g_bipush (v := (76 : Int32)) X dX7_needless_22 (by decide) rfl ?_
      refine gM_ld_at X dX7_needless_24 (k := 76) rfl (by decide) rfl ?_
      refine g_topi (hmk) ?_
      refine g_icmp_ge X dX7_needless_25 74 (by decide) rfl (fun h25 => ?_) (fun h25 => ?_)
      · have i25 := nj_le (a := mk) (b := i) (by omega) (by omega) h25
        have hii : i = mk := by omega
        subst hii
        refine g_lload_n X dX7_needless_74 rfl 1 rfl rfl ?_
        refine g_lretW X hr dX7_needless_75 hAe ?_
        refine rdPost_l ?_
        rw [hx]
        simp [needlessS, *]
      · have i25 := nj_nle (a := mk) (b := i) (by omega) (by omega) h25
        refine g_lload_n X dX7_needless_28 rfl 1 rfl rfl ?_
        refine g_aload_n X dX7_needless_29 rfl 2 rfl rfl ?_
        refine g_iload X dX7_needless_30 0 rfl rfl ?_
        refine g_iconst (v := (0 : Int32)) X dX7_needless_32 (by decide) rfl ?_
        refine g_callVRs (n := 2) (As := [_, _]) (rest := [_]) X (c_X7_of l D _ _ _ _ _ _ _ _ _ _ _ _ _ _ _ _ _  (i) (0) (by omega) (by omega)) gX7_needless_X7_of rfl (by decide +kernel) ⟨Nat.le_of_ble_eq_true rfl, Nat.le_of_ble_eq_true rfl⟩ rfl rfl  rfl rfl (Nat.le_of_ble_eq_true rfl) dX7_needless_33 ⟨Nat.le_of_ble_eq_true rfl, Nat.le_of_ble_eq_true rfl⟩ rfl (fun v hv => ?_)
        obtain rfl := hv
        refine g_st (st' := [_, _]) rfl ?_
        refine g_iload_n X dX7_needless_36 rfl 3 rfl rfl ?_
        refine g_icmp_ne X dX7_needless_37 65 (by decide) rfl (fun h37 => ?_) (fun h37 => ?_)
        · refine g_lconst (v := (0 : Int64)) X dX7_needless_65 (by decide) rfl ?_
          refine g_lor X dX7_needless_66 rfl ?_
          refine g_lstore_n X [(2, _), (4, _), (0, _), (1, _)] dX7_needless_67 rfl (by decide) rfl rfl ?_
          refine g_iinc (v := nI (i + 1)) X [(4, _), (2, _), (0, _), (1, _)] dX7_needless_68 1 rfl (nI_add (i) 1) (by decide) rfl rfl ?_
          refine g_goto X dX7_needless_71 16 (by decide) ?_
          exact ih (mk - (i + 1)) (by omega) (i + 1) _ _ (by omega) rfl (by rw [hx, ndI]; simp [*])
        · refine g_aload_n X dX7_needless_40 rfl 2 rfl rfl ?_
          refine g_iload X dX7_needless_41 0 rfl rfl ?_
          refine g_callVWs (n := 1) (As := [_]) (rest := [_]) X hAg rfl (c_X7_isGood l D _ _ _ _ _ _ _ _ _ _ _ _ _ _ _ _ _  mk hmk h40 hst (i) (by omega)) gX7_needless_X7_isGood rfl (by decide +kernel) ⟨Nat.le_of_ble_eq_true rfl, Nat.le_of_ble_eq_true rfl⟩ rfl rfl  rfl rfl (Nat.le_of_ble_eq_true rfl) dX7_needless_43 ⟨Nat.le_of_ble_eq_true rfl, Nat.le_of_ble_eq_true rfl⟩ rfl (fun v w hv => ?_)
          obtain ⟨rfl, rfl⟩ := hv
          refine ⟨rfl, ?_⟩
          refine g_st (st' := [_, _]) rfl ?_
          refine g_if_eq X dX7_needless_46 65 (by decide) rfl (fun h46 => ?_) (fun h46 => ?_)
          · replace h46 := b2i_0 h46
            refine g_lconst (v := (0 : Int64)) X dX7_needless_65 (by decide) rfl ?_
            refine g_lor X dX7_needless_66 rfl ?_
            refine g_lstore_n X [(2, _), (4, _), (0, _), (1, _)] dX7_needless_67 rfl (by decide) rfl rfl ?_
            refine g_iinc (v := nI (i + 1)) X [(4, _), (2, _), (0, _), (1, _)] dX7_needless_68 1 rfl (nI_add (i) 1) (by decide) rfl rfl ?_
            refine g_goto X dX7_needless_71 16 (by decide) ?_
            exact ih (mk - (i + 1)) (by omega) (i + 1) _ _ (by omega) rfl (by rw [hx, ndI]; simp [*])
          · replace h46 := b2i_n0 h46
            refine g_aload_n X dX7_needless_49 rfl 2 rfl rfl ?_
            refine g_iload X dX7_needless_50 0 rfl rfl ?_
            refine g_callVWs (n := 1) (As := [_]) (rest := [_]) X hAg rfl (c_X7_hiddenBy l D _ _ _ _ _ _ _ _ _ _ _ _ _ _ _ _ _  mk nn b hW (i) (by omega)) gX7_needless_X7_hiddenBy rfl (by decide +kernel) ⟨Nat.le_of_ble_eq_true rfl, Nat.le_of_ble_eq_true rfl⟩ rfl rfl  rfl rfl (Nat.le_of_ble_eq_true rfl) dX7_needless_52 ⟨Nat.le_of_ble_eq_true rfl, Nat.le_of_ble_eq_true rfl⟩ rfl (fun v w hv => ?_)
            obtain ⟨rfl, rfl⟩ := hv
            refine ⟨rfl, ?_⟩
            refine g_st (st' := [_, _]) rfl ?_
            refine g_if_ne X dX7_needless_55 65 (by decide) rfl (fun h55 => ?_) (fun h55 => ?_)
            · refine g_lconst (v := (0 : Int64)) X dX7_needless_65 (by decide) rfl ?_
              refine g_lor X dX7_needless_66 rfl ?_
              refine g_lstore_n X [(2, _), (4, _), (0, _), (1, _)] dX7_needless_67 rfl (by decide) rfl rfl ?_
              refine g_iinc (v := nI (i + 1)) X [(4, _), (2, _), (0, _), (1, _)] dX7_needless_68 1 rfl (nI_add (i) 1) (by decide) rfl rfl ?_
              refine g_goto X dX7_needless_71 16 (by decide) ?_
              exact ih (mk - (i + 1)) (by omega) (i + 1) _ _ (by omega) rfl (by rw [hx, ndI]; simp [*])
            · refine g_lconst (v := (1 : Int64)) X dX7_needless_58 (by decide) rfl ?_
              refine g_iload X dX7_needless_59 0 rfl rfl ?_
              refine g_lshl X dX7_needless_61 rfl rfl ?_
              refine g_goto X dX7_needless_62 66 (by decide) ?_
              refine g_lor X dX7_needless_66 rfl ?_
              refine g_lstore_n X [(2, _), (4, _), (0, _), (1, _)] dX7_needless_67 rfl (by decide) rfl rfl ?_
              refine g_iinc (v := nI (i + 1)) X [(4, _), (2, _), (0, _), (1, _)] dX7_needless_68 1 rfl (nI_add (i) 1) (by decide) rfl rfl ?_
              refine g_goto X dX7_needless_71 16 (by decide) ?_
              exact ih (mk - (i + 1)) (by omega) (i + 1) _ _ (by omega) rfl (by rw [hx, ndI]; simp [*])
    exact L16 mk 0 0 fg (by omega) (by omega) rfl
  · replace h4 := b2i_0 h4
    refine g_ldc2 X dX7_needless_7 (List.mem_of_getElem? (i := 1) rfl) rfl ?_
    refine g_lretW X hr dX7_needless_10 hAe ?_
    exact rdPost_l (by simp [needlessS, *])

set_option maxHeartbeats 4000000 in
set_option maxRecDepth 100000 in
theorem c_X7_longest (l : Launch) (D : DT) (a : Nat → Nat) (fa fp fs fv fg fw fd ft fn : Nat → Int32) (p1 pm wk dm sp iw od : Int32) (mk nn b : Nat) (hW : WF fa mk nn b) : MW l yX7_longest wsX7_longest 3 67 0 0 D [.ref (a 0)] (wM D a fa fp fs fv fg fw fd ft fn p1 pm wk dm sp iw od) (rdPost D a fa fp fs fv fw fd ft fn p1 pm dm sp iw od (.int (longestS fa))) := by
  refine MW.of (cc := cX7_longest) (maxL := 3) (ret := (some .int)) (lv := [(0, .ref (a 0))]) (by decide +kernel) rfl (Nat.le_of_ble_eq_true rfl) rfl ?_
  intro p e s m below meth c A hAe hAg X hr hmn
  have hinX70 : ∀ w ∈ wsX70, w ∈ wsX7_longest := fun w h => List.mem_cons_of_mem _ (List.mem_append_right _ h)
  have hl7 := List.mem_of_getElem? (l := wsX7_longest) (i := 1) rfl
  have hl23 := List.mem_of_getElem? (l := wsX7_longest) (i := 2) rfl
  obtain ⟨hmk, h40, hnn, hb0, hb1, hb8, hnb, hst, hnk, how, hdo, hs1, hs2, hs3, hZF⟩ := id hW
  have hmkN : mkN fa = mk := by unfold mkN; rw [hmk]; exact nI_clamp (by omega)
  have hnN : nN fa = nn := by unfold nN; rw [hnn]; exact nI_clamp (by omega)
  refine g_aload_n X dX7_longest_0 rfl 0 rfl rfl ?_
  refine g_callVWs (n := 0) (As := []) (rest := []) X hAg rfl (c_X7_findGood l D _ _ _ _ _ _ _ _ _ _ _ _ _ _ _ _ _  mk hmk h40 hst) gX7_longest_X7_findGood rfl (by decide +kernel) ⟨Nat.le_of_ble_eq_true rfl, Nat.le_of_ble_eq_true rfl⟩ rfl rfl  rfl rfl (Nat.le_of_ble_eq_true rfl) dX7_longest_1 ⟨Nat.le_of_ble_eq_true rfl, Nat.le_of_ble_eq_true rfl⟩ rfl (fun v w hv => ?_)
  obtain ⟨rfl, rfl⟩ := hv
  refine ⟨rfl, ?_⟩
  refine g_st (st' := []) rfl ?_
  refine g_bipush (v := ((-6) : Int32)) X dX7_longest_4 (by decide) rfl ?_
  refine g_istore_n X [(1, _), (0, _)] dX7_longest_6 rfl (by decide) rfl rfl ?_
  refine g_iconst (v := (0 : Int32)) X dX7_longest_7 (by decide) rfl ?_
  refine g_istore_n X [(2, _), (1, _), (0, _)] dX7_longest_8 rfl (by decide) rfl rfl ?_
  have L9 : ∀ (n i : Nat) (x : Int32) (hi : i ≤ mk) (hn : mk - i = n) (hb : x = -6 ∨ ∃ q : Nat, q < i ∧ x = nI q) (hx : x = lgI fa i), GG p l e (wRoom 3 67 0 0) s m ([.ref (a 0)] : List Value).toArray below meth c D A 3 false 0 0 (MQ below (wrQ D (wM D a fa fp fs fv fg fw fd ft fn p1 pm wk dm sp iw od) s.heap.size (rdPost D a fa fp fs fv fw fd ft fn p1 pm dm sp iw od (.int (longestS fa)))) ([.ref (a 0)] : List Value).toArray s 0 0 (va_A (wM D a fa fp fs fv fg fw fd ft fn p1 pm wk dm sp iw od) s.heap.size)) (wM D a fa fp fs fv (fgI fa fg mk) fw fd ft fn p1 pm wk dm sp iw od) 9 [(2, .int (nI i)), (1, .int x), (0, .ref (a 0))] [] := by
    intro n
    induction n using Nat.strongRecOn with
    | _ n ih =>
    intro i x hi hn hb hx
    refine g_iload_n X dX7_longest_9 rfl 0 rfl rfl ?_
    refine g_aload_n X dX7_longest_10 rfl 2 rfl rfl ?_
    refine gM_get_at X dX7_longest_11 hinX70 hl7 rfl ?_
    refine g_bipush (v := (76 : Int32)) X dX7_longest_14 (by decide) rfl ?_
    refine gM_ld_at X dX7_longest_16 (k := 76) rfl (by decide) rfl ?_
    refine g_topi (hmk) ?_
    refine g_icmp_ge X dX7_longest_17 58 (by decide) rfl (fun h17 => ?_) (fun h17 => ?_)
    · have i17 := nj_le (a := mk) (b := i) (by omega) (by omega) h17
      have hii : i = mk := by omega
      subst hii
      refine g_iload_n X dX7_longest_58 rfl 1 rfl rfl ?_
      refine g_retW X hr (by first | rfl | exact b2i_nar _) dX7_longest_59 hAe ?_
      exact rdPost_i (by unfold longestS; rw [hmkN]; exact hx.symm)
    · have i17 := nj_nle (a := mk) (b := i) (by omega) (by omega) h17
      refine g_aload_n X dX7_longest_20 rfl 2 rfl rfl ?_
      refine gM_get_good X dX7_longest_21 hinX70 hl23 rfl ?_
      refine g_iload_n X dX7_longest_24 rfl 0 rfl rfl ?_
      refine gM_ld_good X dX7_longest_25 (by first | rfl | assumption) (by omega) rfl ?_
      refine g_topi (fgI_lt (f := fa) (g := fg) (i := mk) (k := i) (by omega)) ?_
      refine g_if_eq X dX7_longest_26 50 (by decide) rfl (fun h26 => ?_) (fun h26 => ?_)
      · replace h26 := b2i_0 h26
        refine g_iload_n X dX7_longest_50 rfl 1 rfl rfl ?_
        refine g_istore_n X [(1, _), (2, _), (0, _)] dX7_longest_51 rfl (by decide) rfl rfl ?_
        refine g_iinc (v := nI (i + 1)) X [(2, _), (1, _), (0, _)] dX7_longest_52 1 rfl (nI_add (i) 1) (by decide) rfl rfl ?_
        refine g_goto X dX7_longest_55 9 (by decide) ?_
        first
        | exact ih (mk - (i + 1)) (by omega) (i + 1) x (by omega) rfl (by rcases hb with h | ⟨q, h1, h2⟩; exact Or.inl h; exact Or.inr ⟨q, by omega, h2⟩) (by rw [lgI, ← hx]; clear hx; simp [*])
        | exact ih (mk - (i + 1)) (by omega) (i + 1) (nI bq) (by omega) rfl (Or.inr ⟨bq, by omega, rfl⟩) (by rw [lgI, ← hx]; clear hx; simp [*]; intro z; omega)
        | exact ih (mk - (i + 1)) (by omega) (i + 1) (nI i) (by omega) rfl (Or.inr ⟨i, by omega, rfl⟩) (by rw [lgI, ← hx]; clear hx; simp [*])
      · replace h26 := b2i_n0 h26
        refine g_iload_n X dX7_longest_29 rfl 1 rfl rfl ?_
        refine g_if_lt X dX7_longest_30 46 (by decide) rfl (fun h30 => ?_) (fun h30 => ?_)
        · have i30 : _ < (0 : Int) := ic_lt h30
          refine g_iload_n X dX7_longest_46 rfl 0 rfl rfl ?_
          refine g_goto X dX7_longest_47 51 (by decide) ?_
          refine g_istore_n X [(1, _), (2, _), (0, _)] dX7_longest_51 rfl (by decide) rfl rfl ?_
          refine g_iinc (v := nI (i + 1)) X [(2, _), (1, _), (0, _)] dX7_longest_52 1 rfl (nI_add (i) 1) (by decide) rfl rfl ?_
          refine g_goto X dX7_longest_55 9 (by decide) ?_
          first
          | exact ih (mk - (i + 1)) (by omega) (i + 1) x (by omega) rfl (by rcases hb with h | ⟨q, h1, h2⟩; exact Or.inl h; exact Or.inr ⟨q, by omega, h2⟩) (by rw [lgI, ← hx]; clear hx; simp [*])
          | exact ih (mk - (i + 1)) (by omega) (i + 1) (nI bq) (by omega) rfl (Or.inr ⟨bq, by omega, rfl⟩) (by rw [lgI, ← hx]; clear hx; simp [*]; intro z; omega)
          | exact ih (mk - (i + 1)) (by omega) (i + 1) (nI i) (by omega) rfl (Or.inr ⟨i, by omega, rfl⟩) (by rw [lgI, ← hx]; clear hx; simp [*])
        · have i30 : (0 : Int) ≤ _ := ic_nlt h30
          obtain ⟨bq, hbq, ebq⟩ := hb.resolve_left (fun e => by rw [e] at h30; exact absurd h30 (by decide))
          subst ebq
          refine g_aload_n X dX7_longest_33 rfl 2 rfl rfl ?_
          refine g_iload_n X dX7_longest_34 rfl 0 rfl rfl ?_
          refine g_callVRs (n := 1) (As := [_]) (rest := []) X (c_X7_chain l D _ _ _ _ _ _ _ _ _ _ _ _ _ _ _ _ _  mk hmk h40 hst (i) (by omega)) gX7_longest_X7_chain rfl (by decide +kernel) ⟨Nat.le_of_ble_eq_true rfl, Nat.le_of_ble_eq_true rfl⟩ rfl rfl  rfl rfl (Nat.le_of_ble_eq_true rfl) dX7_longest_35 ⟨Nat.le_of_ble_eq_true rfl, Nat.le_of_ble_eq_true rfl⟩ rfl (fun v hv => ?_)
          obtain rfl := hv
          refine g_st (st' := [_]) rfl ?_
          refine g_aload_n X dX7_longest_38 rfl 2 rfl rfl ?_
          refine g_iload_n X dX7_longest_39 rfl 1 rfl rfl ?_
          refine g_callVRs (n := 1) (As := [_]) (rest := [_]) X (c_X7_chain l D _ _ _ _ _ _ _ _ _ _ _ _ _ _ _ _ _  mk hmk h40 hst bq (by omega)) gX7_longest_X7_chain rfl (by decide +kernel) ⟨Nat.le_of_ble_eq_true rfl, Nat.le_of_ble_eq_true rfl⟩ rfl rfl  rfl rfl (Nat.le_of_ble_eq_true rfl) dX7_longest_40 ⟨Nat.le_of_ble_eq_true rfl, Nat.le_of_ble_eq_true rfl⟩ rfl (fun v hv => ?_)
          obtain rfl := hv
          refine g_st (st' := [_, _]) rfl ?_
          have hc1 := chN_le fa (nI i)
          have hc2 := chN_le fa (nI bq)
          refine g_icmp_le X dX7_longest_43 50 (by decide) rfl (fun h43 => ?_) (fun h43 => ?_)
          · have i43 := nj_le (a := (chN fa (nI i))) (b := (chN fa (nI bq))) (by omega) (by omega) h43
            refine g_iload_n X dX7_longest_50 rfl 1 rfl rfl ?_
            refine g_istore_n X [(1, _), (2, _), (0, _)] dX7_longest_51 rfl (by decide) rfl rfl ?_
            refine g_iinc (v := nI (i + 1)) X [(2, _), (1, _), (0, _)] dX7_longest_52 1 rfl (nI_add (i) 1) (by decide) rfl rfl ?_
            refine g_goto X dX7_longest_55 9 (by decide) ?_
            first
            | exact ih (mk - (i + 1)) (by omega) (i + 1) x (by omega) rfl (by rcases hb with h | ⟨q, h1, h2⟩; exact Or.inl h; exact Or.inr ⟨q, by omega, h2⟩) (by rw [lgI, ← hx]; clear hx; simp [*])
            | exact ih (mk - (i + 1)) (by omega) (i + 1) (nI bq) (by omega) rfl (Or.inr ⟨bq, by omega, rfl⟩) (by rw [lgI, ← hx]; clear hx; simp [*]; intro z; omega)
            | exact ih (mk - (i + 1)) (by omega) (i + 1) (nI i) (by omega) rfl (Or.inr ⟨i, by omega, rfl⟩) (by rw [lgI, ← hx]; clear hx; simp [*])
          · have i43 := nj_nle (a := (chN fa (nI i))) (b := (chN fa (nI bq))) (by omega) (by omega) h43
            refine g_iload_n X dX7_longest_46 rfl 0 rfl rfl ?_
            refine g_goto X dX7_longest_47 51 (by decide) ?_
            refine g_istore_n X [(1, _), (2, _), (0, _)] dX7_longest_51 rfl (by decide) rfl rfl ?_
            refine g_iinc (v := nI (i + 1)) X [(2, _), (1, _), (0, _)] dX7_longest_52 1 rfl (nI_add (i) 1) (by decide) rfl rfl ?_
            refine g_goto X dX7_longest_55 9 (by decide) ?_
            first
            | exact ih (mk - (i + 1)) (by omega) (i + 1) x (by omega) rfl (by rcases hb with h | ⟨q, h1, h2⟩; exact Or.inl h; exact Or.inr ⟨q, by omega, h2⟩) (by rw [lgI, ← hx]; clear hx; simp [*])
            | exact ih (mk - (i + 1)) (by omega) (i + 1) (nI bq) (by omega) rfl (Or.inr ⟨bq, by omega, rfl⟩) (by rw [lgI, ← hx]; clear hx; simp [*]; intro z; omega)
            | exact ih (mk - (i + 1)) (by omega) (i + 1) (nI i) (by omega) rfl (Or.inr ⟨i, by omega, rfl⟩) (by rw [lgI, ← hx]; clear hx; simp [*])
  exact L9 mk 0 _ (by omega) (by omega) (Or.inl rfl) rfl
