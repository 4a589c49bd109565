set_option maxHeartbeats 4000000 in
set_option maxRecDepth 100000 in
theorem c_L_cell (l : Launch) (D : DT) (b L : Nat) (xs : Nat → Int32) (hL : L < 5000) (k : Nat) (hk : k < 5000) : MX l yL_cell wsL_cell 0 0 D [.ref (b), .int (nI k)] b L xs (fun v => v = some (.int (cellV xs L k))) := by
  refine MX.of (cc := cL_cell) (maxL := 2) (ret := (some .int)) (lv := [(0, .ref (b)), (1, .int (nI k))]) (by decide +kernel) rfl (Nat.le_of_ble_eq_true rfl) rfl ?_
  intro p e s m below meth c A X hr hX hbl hbA
  refine g_iload_n X dL_cell_0 rfl 1 rfl rfl ?_
  refine g_aload_n X dL_cell_1 rfl 0 rfl rfl ?_
  refine g_slenL X hX hbl hbA dL_cell_2 rfl ?_
  refine g_icmp_ge X dL_cell_3 12 (by decide) rfl (fun h3 => ?_) (fun h3 => ?_)
  · have i3 := nj_le (a := L) (b := k) (by omega) (by omega) h3
    refine g_ldcI X dL_cell_12 (List.mem_of_getElem? (l := wsL_cell) (i := 1) rfl) rfl ?_
    refine g_iload_n X dL_cell_14 rfl 1 rfl rfl ?_
    refine g_sipush (v := (1619 : Int32)) X dL_cell_15 (by decide) rfl ?_
    refine g_iadd X dL_cell_18 rfl ?_
    refine g_topi (y := nI (k + 1619)) (nI_add k 1619) ?_
    refine g_imul X dL_cell_19 rfl ?_
    refine g_topi (y := nI (73244475 * (k + 1619))) (pk_mul 73244475 (k + 1619)) ?_
    refine g_retR X hr (by first | rfl | exact b2i_nar _) dL_cell_20 ?_
    unfold cellV
    first
    | (rw [if_pos (by omega)]; done)
    | (rw [if_neg (by omega)]; done)
  · have i3 := nj_nle (a := L) (b := k) (by omega) (by omega) h3
    refine g_aload_n X dL_cell_6 rfl 0 rfl rfl ?_
    refine g_iload_n X dL_cell_7 rfl 1 rfl rfl ?_
    refine g_sld (k := k) X hX hbl hbA dL_cell_8 rfl (by omega) (by omega) rfl ?_
    refine g_goto X dL_cell_9 20 (by decide) ?_
    refine g_retR X hr (by first | rfl | exact b2i_nar _) dL_cell_20 ?_
    unfold cellV
    first
    | (rw [if_pos (by omega)]; done)
    | (rw [if_neg (by omega)]; done)

set_option maxHeartbeats 4000000 in
set_option maxRecDepth 100000 in
theorem c_L_up (l : Launch) (D : DT) (vv : Int32) (mm : Nat) (hm : 0 < mm ∧ mm < 2 ^ 31) : MR l yL_up wsL_up 0 0 D [.int (vv), .int (nI mm)] ([] : va_W) (fun v => v = some (.int (nI (upN vv mm)))) := by
  refine MR.of (cc := cL_up) (maxL := 2) (ret := (some .int)) (lv := [(0, .int (vv)), (1, .int (nI mm))]) (by decide +kernel) rfl (Nat.le_of_ble_eq_true rfl) rfl ?_
  intro p e s m below meth c A X hr hmn
  refine g_iload_n X dL_up_0 rfl 0 rfl rfl ?_
  refine g_ldcI X dL_up_1 (List.mem_of_getElem? (l := wsL_up) (i := 1) rfl) rfl ?_
  refine g_iand X dL_up_3 rfl ?_
  refine g_iload_n X dL_up_4 rfl 1 rfl rfl ?_
  refine g_irem X dL_up_5 (fun z => by have := (nI_eq (a := mm) (b := 0) hm.2 (by omega)).mp z; omega) rfl ?_
  refine g_retR X hr (by first | rfl | exact b2i_nar _) dL_up_6 ?_
  exact congrArg (fun x => some (Value.int x)) (up_val hm.2)

set_option maxHeartbeats 4000000 in
set_option maxRecDepth 100000 in
theorem c_L_based (l : Launch) (D : DT) (a : Nat → Nat) (f : Nat → Int32) (na : Nat → Nat → Int32) (w td vl : Nat → Int32) (L pt fl : Nat) (kd : Int32) (kp : Nat) (fq fs : Nat → Option Nat) (tl : va_W) (mk n b : Nat) (hW : WF f mk n b) (hNR : NR f na n) (q : Nat) (hq : q < mk) : MR l yL_based wsL_based 4 95 D [.ref (a 19), .int (nI q)] (wB D a f na w td vl L pt fl kd kp fq fs tl) (fun v => v = some (.int (b2i (basedM f q)))) := by
  obtain ⟨hmk, hm40, hn8, hb0, hb01, hb08, hn8b, hst, hno, how, hdo, hb0a, hb0c, hb0d, hb0z⟩ := id hW
  have hm8 : n ≤ 8 := by omega
  obtain ⟨eN1, eN2, -⟩ := hW.N
  obtain ⟨⟨pg, hpg, epg⟩, -, -, ⟨ra, hra, era⟩, hrt, -, -⟩ := id (hst q hq)
  refine MR.of (cc := cL_based) (maxL := 4) (ret := (some .boolean)) (lv := [(0, .ref (a 19)), (1, .int (nI q))]) (by decide +kernel) rfl (Nat.le_of_ble_eq_true rfl) rfl ?_
  intro p e s m below meth c A X hr hmn
  refine g_aload_n X dL_based_0 rfl 0 rfl rfl ?_
  refine g_iload_n X dL_based_1 rfl 1 rfl rfl ?_
  refine g_iconst (v := (4 : Int32)) X dL_based_2 (by decide) rfl ?_
  refine g_callVRX (w0 := []) (n := 2) (As := [_, _]) (rest := []) X (c_X6_ofStamp l D a f na w td vl L pt fl kd kp fq fs tl mk n b hW hNR _ _) gL_based_X6_ofStamp rfl (by decide +kernel) ⟨Nat.le_of_ble_eq_true rfl, Nat.le_of_ble_eq_true rfl⟩ 20 rfl rfl rfl rfl rfl (Nat.le_of_ble_eq_true rfl) dL_based_3 ⟨Nat.le_of_ble_eq_true rfl, Nat.le_of_ble_eq_true rfl⟩ rfl (fun v hv => ?_)
  obtain rfl := hv
  refine g_st (st' := [_]) rfl ?_
  refine g_topi (oSt (q := q) 4 eN1 (by omega) hm40 rfl (by decide)) ?_
  rcases hrt with e6 | ⟨r, hrq, er⟩
  · refine g_topi (e6) ?_
    refine g_istore_n X [(2, _), (0, _), (1, _)] dL_based_6 rfl (by decide) rfl rfl ?_
    refine g_iload_n X dL_based_7 rfl 0 rfl rfl ?_
    refine g_if_ge X dL_based_8 37 (by decide) rfl (fun h8 => absurd h8 (by decide)) (fun h8 => ?_)
    refine g_aload_n X dL_based_11 rfl 1 rfl rfl ?_
    refine g_iload_n X dL_based_12 rfl 2 rfl rfl ?_
    refine g_iconst (v := (1 : Int32)) X dL_based_13 (by decide) rfl ?_
    refine g_callVRX (w0 := []) (n := 2) (As := [_, _]) (rest := []) X (c_X6_ofStamp l D a f na w td vl L pt fl kd kp fq fs tl mk n b hW hNR _ _) gL_based_X6_ofStamp rfl (by decide +kernel) ⟨Nat.le_of_ble_eq_true rfl, Nat.le_of_ble_eq_true rfl⟩ 20 rfl rfl rfl rfl rfl (Nat.le_of_ble_eq_true rfl) dL_based_14 ⟨Nat.le_of_ble_eq_true rfl, Nat.le_of_ble_eq_true rfl⟩ rfl (fun v hv => ?_)
    obtain rfl := hv
    refine g_st (st' := [_]) rfl ?_
    refine g_topi (oSt (q := q) 1 eN1 (by omega) hm40 rfl (by decide)) ?_
    refine g_aload_n X dL_based_17 rfl 1 rfl rfl ?_
    refine g_aload_n X dL_based_18 rfl 1 rfl rfl ?_
    refine g_iload_n X dL_based_19 rfl 2 rfl rfl ?_
    refine g_iconst (v := (0 : Int32)) X dL_based_20 (by decide) rfl ?_
    refine g_callVRX (w0 := []) (n := 2) (As := [_, _]) (rest := [_, _]) X (c_X6_ofStamp l D a f na w td vl L pt fl kd kp fq fs tl mk n b hW hNR _ _) gL_based_X6_ofStamp rfl (by decide +kernel) ⟨Nat.le_of_ble_eq_true rfl, Nat.le_of_ble_eq_true rfl⟩ 20 rfl rfl rfl rfl rfl (Nat.le_of_ble_eq_true rfl) dL_based_21 ⟨Nat.le_of_ble_eq_true rfl, Nat.le_of_ble_eq_true rfl⟩ rfl (fun v hv => ?_)
    obtain rfl := hv
    refine g_st (st' := [_, _, _]) rfl ?_
    refine g_topi (oSt (q := q) 0 eN1 (by omega) hm40 rfl (by decide)) ?_
    refine g_topi (epg) ?_
    refine g_iconst (v := (0 : Int32)) X dL_based_24 (by decide) rfl ?_
    refine g_callVRX (w0 := []) (n := 2) (As := [_, _]) (rest := [_]) X (c_X6_ofPage l D a f na w td vl L pt fl kd kp fq fs tl mk n b hW hNR _ _) gL_based_X6_ofPage rfl (by decide +kernel) ⟨Nat.le_of_ble_eq_true rfl, Nat.le_of_ble_eq_true rfl⟩ 20 rfl rfl rfl rfl rfl (Nat.le_of_ble_eq_true rfl) dL_based_25 ⟨Nat.le_of_ble_eq_true rfl, Nat.le_of_ble_eq_true rfl⟩ rfl (fun v hv => ?_)
    obtain rfl := hv
    refine g_st (st' := [_, _]) rfl ?_
    refine g_topi (oPg0 (p := pg) (by omega)) ?_
    refine g_icmp_ne X dL_based_28 35 (by decide) rfl (fun h28 => ?_) (fun h28 => ?_)
    · refine g_iconst (v := (0 : Int32)) X dL_based_35 (by decide) rfl ?_
      refine g_retR X hr (by first | rfl | exact b2i_nar _) dL_based_36 ?_
      unfold basedM
      rw [if_pos (by rw [e6]; exact neg6), epg, nI_clamp (by omega)]
      first
      | exact ret_1 (decide_eq_true h28)
      | exact ret_0 (decide_eq_false h28)
    · refine g_iconst (v := (1 : Int32)) X dL_based_31 (by decide) rfl ?_
      refine g_goto X dL_based_32 36 (by decide) ?_
      refine g_retR X hr (by first | rfl | exact b2i_nar _) dL_based_36 ?_
      unfold basedM
      rw [if_pos (by rw [e6]; exact neg6), epg, nI_clamp (by omega)]
      first
      | exact ret_1 (decide_eq_true h28)
      | exact ret_0 (decide_eq_false h28)
  · refine g_topi (er) ?_
    obtain ⟨-, -, -, ⟨rb, hrb, erb⟩, -, -, -⟩ := id (hst r (by omega))
    refine g_istore_n X [(2, _), (0, _), (1, _)] dL_based_6 rfl (by decide) rfl rfl ?_
    refine g_iload_n X dL_based_7 rfl 0 rfl rfl ?_
    refine g_if_ge X dL_based_8 37 (by decide) rfl (fun h8 => ?_) (fun h8 => absurd (nI_ge0 (by omega)) h8)
    have i8 := nj_le (a := 0) (b := r) (by omega) (by omega) h8
    refine g_aload_n X dL_based_37 rfl 1 rfl rfl ?_
    refine g_iload_n X dL_based_38 rfl 2 rfl rfl ?_
    refine g_iconst (v := (3 : Int32)) X dL_based_39 (by decide) rfl ?_
    refine g_callVRX (w0 := []) (n := 2) (As := [_, _]) (rest := []) X (c_X6_ofStamp l D a f na w td vl L pt fl kd kp fq fs tl mk n b hW hNR _ _) gL_based_X6_ofStamp rfl (by decide +kernel) ⟨Nat.le_of_ble_eq_true rfl, Nat.le_of_ble_eq_true rfl⟩ 20 rfl rfl rfl rfl rfl (Nat.le_of_ble_eq_true rfl) dL_based_40 ⟨Nat.le_of_ble_eq_true rfl, Nat.le_of_ble_eq_true rfl⟩ rfl (fun v hv => ?_)
    obtain rfl := hv
    refine g_st (st' := [_]) rfl ?_
    refine g_topi (oSt (q := q) 3 eN1 (by omega) hm40 rfl (by decide)) ?_
    refine g_istore_n X [(3, _), (2, _), (0, _), (1, _)] dL_based_43 rfl (by decide) rfl rfl ?_
    refine g_aload_n X dL_based_44 rfl 2 rfl rfl ?_
    refine g_iload_n X dL_based_45 rfl 1 rfl rfl ?_
    refine g_iconst (v := (0 : Int32)) X dL_based_46 (by decide) rfl ?_
    refine g_callVRX (w0 := []) (n := 2) (As := [_, _]) (rest := []) X (c_X6_ofStamp l D a f na w td vl L pt fl kd kp fq fs tl mk n b hW hNR _ _) gL_based_X6_ofStamp rfl (by decide +kernel) ⟨Nat.le_of_ble_eq_true rfl, Nat.le_of_ble_eq_true rfl⟩ 20 rfl rfl rfl rfl rfl (Nat.le_of_ble_eq_true rfl) dL_based_47 ⟨Nat.le_of_ble_eq_true rfl, Nat.le_of_ble_eq_true rfl⟩ rfl (fun v hv => ?_)
    obtain rfl := hv
    refine g_st (st' := [_]) rfl ?_
    refine g_topi (oSt (q := r) 0 eN1 (by omega) hm40 rfl (by decide)) ?_
    refine g_aload_n X dL_based_50 rfl 2 rfl rfl ?_
    refine g_iload_n X dL_based_51 rfl 3 rfl rfl ?_
    refine g_iconst (v := (0 : Int32)) X dL_based_52 (by decide) rfl ?_
    refine g_callVRX (w0 := []) (n := 2) (As := [_, _]) (rest := [_]) X (c_X6_ofStamp l D a f na w td vl L pt fl kd kp fq fs tl mk n b hW hNR _ _) gL_based_X6_ofStamp rfl (by decide +kernel) ⟨Nat.le_of_ble_eq_true rfl, Nat.le_of_ble_eq_true rfl⟩ 20 rfl rfl rfl rfl rfl (Nat.le_of_ble_eq_true rfl) dL_based_53 ⟨Nat.le_of_ble_eq_true rfl, Nat.le_of_ble_eq_true rfl⟩ rfl (fun v hv => ?_)
    obtain rfl := hv
    refine g_st (st' := [_, _]) rfl ?_
    refine g_topi (oSt (q := q) 0 eN1 (by omega) hm40 rfl (by decide)) ?_
    refine g_icmp_ne X dL_based_56 100 (by decide) rfl (fun h56 => ?_) (fun h56 => ?_)
    · refine g_iconst (v := (0 : Int32)) X dL_based_100 (by decide) rfl ?_
      refine g_retR X hr (by first | rfl | exact b2i_nar _) dL_based_101 ?_
      unfold basedM
      rw [if_neg (by rw [er]; exact nI_pos (by omega)), rtM_n er (by omega)]
      first
      | exact ret_0 (by rw [decide_eq_false h56, Bool.false_and])
      | exact ret_0 (by rw [decide_eq_false h71, Bool.false_and, Bool.and_false])
      | exact ret_0 (by rw [decide_eq_false (p := ¬ ofM f r 3 &&& 4 = 0) (fun z => absurd ((rt_ge rb hrb).mpr (by rw [← erb]; exact z)) (Int32.not_le.mpr h81)), Bool.false_and, Bool.and_false, Bool.and_false])
      | exact ret_0 (by rw [decide_eq_false h93, Bool.and_false, Bool.and_false, Bool.and_false])
      | exact ret_1 (by rw [decide_eq_true h56, decide_eq_true h71, decide_eq_true (p := ¬ ofM f r 3 &&& 4 = 0) (by rw [erb]; exact (rt_ge rb hrb).mp (Int32.not_lt.mp h81)), decide_eq_true h93]; rfl)
    · refine g_aload_n X dL_based_59 rfl 2 rfl rfl ?_
      refine g_iload_n X dL_based_60 rfl 1 rfl rfl ?_
      refine g_iconst (v := (2 : Int32)) X dL_based_61 (by decide) rfl ?_
      refine g_callVRX (w0 := []) (n := 2) (As := [_, _]) (rest := []) X (c_X6_ofStamp l D a f na w td vl L pt fl kd kp fq fs tl mk n b hW hNR _ _) gL_based_X6_ofStamp rfl (by decide +kernel) ⟨Nat.le_of_ble_eq_true rfl, Nat.le_of_ble_eq_true rfl⟩ 20 rfl rfl rfl rfl rfl (Nat.le_of_ble_eq_true rfl) dL_based_62 ⟨Nat.le_of_ble_eq_true rfl, Nat.le_of_ble_eq_true rfl⟩ rfl (fun v hv => ?_)
      obtain rfl := hv
      refine g_st (st' := [_]) rfl ?_
      refine g_topi (oSt (q := r) 2 eN1 (by omega) hm40 rfl (by decide)) ?_
      refine g_aload_n X dL_based_65 rfl 2 rfl rfl ?_
      refine g_iload_n X dL_based_66 rfl 3 rfl rfl ?_
      refine g_iconst (v := (1 : Int32)) X dL_based_67 (by decide) rfl ?_
      refine g_callVRX (w0 := []) (n := 2) (As := [_, _]) (rest := [_]) X (c_X6_ofStamp l D a f na w td vl L pt fl kd kp fq fs tl mk n b hW hNR _ _) gL_based_X6_ofStamp rfl (by decide +kernel) ⟨Nat.le_of_ble_eq_true rfl, Nat.le_of_ble_eq_true rfl⟩ 20 rfl rfl rfl rfl rfl (Nat.le_of_ble_eq_true rfl) dL_based_68 ⟨Nat.le_of_ble_eq_true rfl, Nat.le_of_ble_eq_true rfl⟩ rfl (fun v hv => ?_)
      obtain rfl := hv
      refine g_st (st' := [_, _]) rfl ?_
      refine g_topi (oSt (q := q) 1 eN1 (by omega) hm40 rfl (by decide)) ?_
      refine g_icmp_ne X dL_based_71 100 (by decide) rfl (fun h71 => ?_) (fun h71 => ?_)
      · refine g_iconst (v := (0 : Int32)) X dL_based_100 (by decide) rfl ?_
        refine g_retR X hr (by first | rfl | exact b2i_nar _) dL_based_101 ?_
        unfold basedM
        rw [if_neg (by rw [er]; exact nI_pos (by omega)), rtM_n er (by omega)]
        first
        | exact ret_0 (by rw [decide_eq_false h56, Bool.false_and])
        | exact ret_0 (by rw [decide_eq_false h71, Bool.false_and, Bool.and_false])
        | exact ret_0 (by rw [decide_eq_false (p := ¬ ofM f r 3 &&& 4 = 0) (fun z => absurd ((rt_ge rb hrb).mpr (by rw [← erb]; exact z)) (Int32.not_le.mpr h81)), Bool.false_and, Bool.and_false, Bool.and_false])
        | exact ret_0 (by rw [decide_eq_false h93, Bool.and_false, Bool.and_false, Bool.and_false])
        | exact ret_1 (by rw [decide_eq_true h56, decide_eq_true h71, decide_eq_true (p := ¬ ofM f r 3 &&& 4 = 0) (by rw [erb]; exact (rt_ge rb hrb).mp (Int32.not_lt.mp h81)), decide_eq_true h93]; rfl)
      · refine g_aload_n X dL_based_74 rfl 2 rfl rfl ?_
        refine g_iload_n X dL_based_75 rfl 1 rfl rfl ?_
        refine g_iconst (v := (3 : Int32)) X dL_based_76 (by decide) rfl ?_
        refine g_callVRX (w0 := []) (n := 2) (As := [_, _]) (rest := []) X (c_X6_ofStamp l D a f na w td vl L pt fl kd kp fq fs tl mk n b hW hNR _ _) gL_based_X6_ofStamp rfl (by decide +kernel) ⟨Nat.le_of_ble_eq_true rfl, Nat.le_of_ble_eq_true rfl⟩ 20 rfl rfl rfl rfl rfl (Nat.le_of_ble_eq_true rfl) dL_based_77 ⟨Nat.le_of_ble_eq_true rfl, Nat.le_of_ble_eq_true rfl⟩ rfl (fun v hv => ?_)
        obtain rfl := hv
        refine g_st (st' := [_]) rfl ?_
        refine g_topi (oSt (q := r) 3 eN1 (by omega) hm40 rfl (by decide)) ?_
        refine g_topi (erb) ?_
        refine g_iconst (v := (4 : Int32)) X dL_based_80 (by decide) rfl ?_
        refine g_icmp_lt X dL_based_81 100 (by decide) rfl (fun h81 => ?_) (fun h81 => ?_)
        · have i81 := nj_lt (a := rb) (b := 4) (by omega) (by omega) h81
          refine g_iconst (v := (0 : Int32)) X dL_based_100 (by decide) rfl ?_
          refine g_retR X hr (by first | rfl | exact b2i_nar _) dL_based_101 ?_
          unfold basedM
          rw [if_neg (by rw [er]; exact nI_pos (by omega)), rtM_n er (by omega)]
          first
          | exact ret_0 (by rw [decide_eq_false h56, Bool.false_and])
          | exact ret_0 (by rw [decide_eq_false h71, Bool.false_and, Bool.and_false])
          | exact ret_0 (by rw [decide_eq_false (p := ¬ ofM f r 3 &&& 4 = 0) (fun z => absurd ((rt_ge rb hrb).mpr (by rw [← erb]; exact z)) (Int32.not_le.mpr h81)), Bool.false_and, Bool.and_false, Bool.and_false])
          | exact ret_0 (by rw [decide_eq_false h93, Bool.and_false, Bool.and_false, Bool.and_false])
          | exact ret_1 (by rw [decide_eq_true h56, decide_eq_true h71, decide_eq_true (p := ¬ ofM f r 3 &&& 4 = 0) (by rw [erb]; exact (rt_ge rb hrb).mp (Int32.not_lt.mp h81)), decide_eq_true h93]; rfl)
        · have i81 := nj_nlt (a := rb) (b := 4) (by omega) (by omega) h81
          refine g_aload_n X dL_based_84 rfl 2 rfl rfl ?_
          refine g_iload_n X dL_based_85 rfl 1 rfl rfl ?_
          refine g_iconst (v := (3 : Int32)) X dL_based_86 (by decide) rfl ?_
          refine g_callVRX (w0 := []) (n := 2) (As := [_, _]) (rest := []) X (c_X6_ofStamp l D a f na w td vl L pt fl kd kp fq fs tl mk n b hW hNR _ _) gL_based_X6_ofStamp rfl (by decide +kernel) ⟨Nat.le_of_ble_eq_true rfl, Nat.le_of_ble_eq_true rfl⟩ 20 rfl rfl rfl rfl rfl (Nat.le_of_ble_eq_true rfl) dL_based_87 ⟨Nat.le_of_ble_eq_true rfl, Nat.le_of_ble_eq_true rfl⟩ rfl (fun v hv => ?_)
          obtain rfl := hv
          refine g_st (st' := [_]) rfl ?_
          refine g_topi (oSt (q := r) 3 eN1 (by omega) hm40 rfl (by decide)) ?_
          refine g_iload_n X dL_based_90 rfl 0 rfl rfl ?_
          refine g_iand X dL_based_91 rfl ?_
          refine g_iload_n X dL_based_92 rfl 0 rfl rfl ?_
          refine g_icmp_ne X dL_based_93 100 (by decide) rfl (fun h93 => ?_) (fun h93 => ?_)
          · refine g_iconst (v := (0 : Int32)) X dL_based_100 (by decide) rfl ?_
            refine g_retR X hr (by first | rfl | exact b2i_nar _) dL_based_101 ?_
            unfold basedM
            rw [if_neg (by rw [er]; exact nI_pos (by omega)), rtM_n er (by omega)]
            first
            | exact ret_0 (by rw [decide_eq_false h56, Bool.false_and])
            | exact ret_0 (by rw [decide_eq_false h71, Bool.false_and, Bool.and_false])
            | exact ret_0 (by rw [decide_eq_false (p := ¬ ofM f r 3 &&& 4 = 0) (fun z => absurd ((rt_ge rb hrb).mpr (by rw [← erb]; exact z)) (Int32.not_le.mpr h81)), Bool.false_and, Bool.and_false, Bool.and_false])
            | exact ret_0 (by rw [decide_eq_false h93, Bool.and_false, Bool.and_false, Bool.and_false])
            | exact ret_1 (by rw [decide_eq_true h56, decide_eq_true h71, decide_eq_true (p := ¬ ofM f r 3 &&& 4 = 0) (by rw [erb]; exact (rt_ge rb hrb).mp (Int32.not_lt.mp h81)), decide_eq_true h93]; rfl)
          · refine g_iconst (v := (1 : Int32)) X dL_based_96 (by decide) rfl ?_
            refine g_goto X dL_based_97 101 (by decide) ?_
            refine g_retR X hr (by first | rfl | exact b2i_nar _) dL_based_101 ?_
            unfold basedM
            rw [if_neg (by rw [er]; exact nI_pos (by omega)), rtM_n er (by omega)]
            first
            | exact ret_0 (by rw [decide_eq_false h56, Bool.false_and])
            | exact ret_0 (by rw [decide_eq_false h71, Bool.false_and, Bool.and_false])
            | exact ret_0 (by rw [decide_eq_false (p := ¬ ofM f r 3 &&& 4 = 0) (fun z => absurd ((rt_ge rb hrb).mpr (by rw [← erb]; exact z)) (Int32.not_le.mpr h81)), Bool.false_and, Bool.and_false, Bool.and_false])
            | exact ret_0 (by rw [decide_eq_false h93, Bool.and_false, Bool.and_false, Bool.and_false])
            | exact ret_1 (by rw [decide_eq_true h56, decide_eq_true h71, decide_eq_true (p := ¬ ofM f r 3 &&& 4 = 0) (by rw [erb]; exact (rt_ge rb hrb).mp (Int32.not_lt.mp h81)), decide_eq_true h93]; rfl)

set_option maxHeartbeats 4000000 in
set_option maxRecDepth 100000 in
theorem c_L_good (l : Launch) (D : DT) (a : Nat → Nat) (f : Nat → Int32) (na : Nat → Nat → Int32) (w td vl : Nat → Int32) (L pt fl : Nat) (kd : Int32) (kp : Nat) (fq fs : Nat → Option Nat) (tl : va_W) (mk n b : Nat) (hW : WF f mk n b) (hNR : NR f na n) (q : Nat) (hq : q < mk) : MR l yL_good wsL_good 5 118 D [.ref (a 19), .int (nI q)] (wB D a f na w td vl L pt fl kd kp fq fs tl) (fun v => v = some (.int (b2i (gd f q)))) := by
  obtain ⟨hmk, hm40, hn8, hb0, hb01, hb08, hn8b, hst, hno, how, hdo, hb0a, hb0c, hb0d, hb0z⟩ := id hW
  have hm8 : n ≤ 8 := by omega
  obtain ⟨eN1, eN2, -⟩ := hW.N
  refine MR.of (cc := cL_good) (maxL := 3) (ret := (some .boolean)) (lv := [(0, .ref (a 19)), (1, .int (nI q))]) (by decide +kernel) rfl (Nat.le_of_ble_eq_true rfl) rfl ?_
  intro p e s m below meth c A X hr hmn
  refine g_iload_n X dL_good_0 rfl 1 rfl rfl ?_
  refine g_istore_n X [(2, _), (0, _), (1, _)] dL_good_1 rfl (by decide) rfl rfl ?_
  have L2 : ∀ (k : Nat) (x : Int32) (hx : x = -6 ∨ ∃ r : Nat, r < k ∧ r < mk ∧ x = nI r) (hG : gd f q = (decide (x < 0) || gd f x.toNatClampNeg)), GG p l e (wRoom 5 118 0 0) s m ([.ref (a 19), .int (nI q)] : List Value).toArray below meth c D A 3 true 0 0 (MQ below (roQ (fun v => v = some (.int (b2i (gd f q))))) ([.ref (a 19), .int (nI q)] : List Value).toArray s 0 0 (fun _ => False)) (wB D a f na w td vl L pt fl kd kp fq fs tl) 2 [(2, .int (x)), (0, .ref (a 19)), (1, .int (nI q))] [] := by
    intro k
    induction k using Nat.strongRecOn with
    | _ k ih =>
    intro x hx hG
    rcases hx with rfl | ⟨r, hrk, hrm, rfl⟩
    · refine g_iload_n X dL_good_2 rfl 0 rfl rfl ?_
      refine g_if_lt X dL_good_3 47 (by decide) rfl (fun h3 => ?_) (fun h3 => absurd h3 (by decide))
      refine g_iconst (v := (1 : Int32)) X dL_good_47 (by decide) rfl ?_
      refine g_retR X hr (by first | rfl | exact b2i_nar _) dL_good_48 ?_
      exact ret_1 (by rw [hG, decide_eq_true neg6, Bool.true_or])
    · obtain ⟨-, -, -, -, hrt, ⟨b5, e5⟩, ⟨b6, e6⟩⟩ := id (hst r hrm)
      have hG2 : gd f q = (decide (ofM f r 5 = 0) && (decide (ofM f r 6 = 0) && (basedM f r && (decide (ofM f r 4 < 0) || gd f (ofM f r 4).toNatClampNeg)))) := by rw [hG, nI_clamp (by omega), decide_eq_false (nI_pos (by omega)), Bool.false_or]; exact gdS hst hrm hm40
      refine g_iload_n X dL_good_2 rfl 0 rfl rfl ?_
      refine g_if_lt X dL_good_3 47 (by decide) rfl (fun h3 => absurd h3 (nI_pos (by omega))) (fun h3 => ?_)
      have i3 := nj_nlt (a := r) (b := 0) (by omega) (by omega) h3
      refine g_aload_n X dL_good_6 rfl 1 rfl rfl ?_
      refine g_iload_n X dL_good_7 rfl 0 rfl rfl ?_
      refine g_iconst (v := (5 : Int32)) X dL_good_8 (by decide) rfl ?_
      refine g_callVRX (w0 := []) (n := 2) (As := [_, _]) (rest := []) X (c_X6_ofStamp l D a f na w td vl L pt fl kd kp fq fs tl mk n b hW hNR _ _) gL_good_X6_ofStamp rfl (by decide +kernel) ⟨Nat.le_of_ble_eq_true rfl, Nat.le_of_ble_eq_true rfl⟩ 20 rfl rfl rfl rfl rfl (Nat.le_of_ble_eq_true rfl) dL_good_9 ⟨Nat.le_of_ble_eq_true rfl, Nat.le_of_ble_eq_true rfl⟩ rfl (fun v hv => ?_)
      obtain rfl := hv
      refine g_st (st' := [_]) rfl ?_
      refine g_topi (oSt (q := r) 5 eN1 (by omega) hm40 rfl (by decide)) ?_
      refine g_topi (e5) ?_
      refine g_iconst (v := (1 : Int32)) X dL_good_12 (by decide) rfl ?_
      refine g_icmp_eq X dL_good_13 35 (by decide) rfl (fun h13 => ?_) (fun h13 => ?_)
      · replace h13 := b2i_1 h13
        refine g_iconst (v := (0 : Int32)) X dL_good_35 (by decide) rfl ?_
        refine g_retR X hr (by first | rfl | exact b2i_nar _) dL_good_36 ?_
        exact ret_0 (by rw [hG2, e5, e6]; first | (rw [h13]; rfl) | (rw [h13, h24]; rfl) | (rw [h13, h24, h32]; rfl))
      · replace h13 := b2i_n1 h13
        refine g_aload_n X dL_good_16 rfl 1 rfl rfl ?_
        refine g_iload_n X dL_good_17 rfl 0 rfl rfl ?_
        refine g_bipush (v := (6 : Int32)) X dL_good_18 (by decide) rfl ?_
        refine g_callVRX (w0 := []) (n := 2) (As := [_, _]) (rest := []) X (c_X6_ofStamp l D a f na w td vl L pt fl kd kp fq fs tl mk n b hW hNR _ _) gL_good_X6_ofStamp rfl (by decide +kernel) ⟨Nat.le_of_ble_eq_true rfl, Nat.le_of_ble_eq_true rfl⟩ 20 rfl rfl rfl rfl rfl (Nat.le_of_ble_eq_true rfl) dL_good_20 ⟨Nat.le_of_ble_eq_true rfl, Nat.le_of_ble_eq_true rfl⟩ rfl (fun v hv => ?_)
        obtain rfl := hv
        refine g_st (st' := [_]) rfl ?_
        refine g_topi (oSt (q := r) 6 eN1 (by omega) hm40 rfl (by decide)) ?_
        refine g_topi (e6) ?_
        refine g_iconst (v := (1 : Int32)) X dL_good_23 (by decide) rfl ?_
        refine g_icmp_eq X dL_good_24 35 (by decide) rfl (fun h24 => ?_) (fun h24 => ?_)
        · replace h24 := b2i_1 h24
          refine g_iconst (v := (0 : Int32)) X dL_good_35 (by decide) rfl ?_
          refine g_retR X hr (by first | rfl | exact b2i_nar _) dL_good_36 ?_
          exact ret_0 (by rw [hG2, e5, e6]; first | (rw [h13]; rfl) | (rw [h13, h24]; rfl) | (rw [h13, h24, h32]; rfl))
        · replace h24 := b2i_n1 h24
          refine g_aload_n X dL_good_27 rfl 1 rfl rfl ?_
          refine g_iload_n X dL_good_28 rfl 0 rfl rfl ?_
          refine g_callSRX (w0 := []) (n := 2) (As := [_, _]) (rest := []) X (c_L_based l D a f na w td vl L pt fl kd kp fq fs tl mk n b hW hNR r (by omega)) gL_good_L_based rfl (by decide +kernel) ⟨Nat.le_of_ble_eq_true rfl, Nat.le_of_ble_eq_true rfl⟩ rfl rfl rfl (Nat.le_of_ble_eq_true rfl) dL_good_29 ⟨Nat.le_of_ble_eq_true rfl, Nat.le_of_ble_eq_true rfl⟩ rfl (fun v hv => ?_)
          obtain rfl := hv
          refine g_st (st' := [_]) rfl ?_
          refine g_if_ne X dL_good_32 37 (by decide) rfl (fun h32 => ?_) (fun h32 => ?_)
          · replace h32 := b2i_n0 h32
            refine g_aload_n X dL_good_37 rfl 1 rfl rfl ?_
            refine g_iload_n X dL_good_38 rfl 0 rfl rfl ?_
            refine g_iconst (v := (4 : Int32)) X dL_good_39 (by decide) rfl ?_
            refine g_callVRX (w0 := []) (n := 2) (As := [_, _]) (rest := []) X (c_X6_ofStamp l D a f na w td vl L pt fl kd kp fq fs tl mk n b hW hNR _ _) gL_good_X6_ofStamp rfl (by decide +kernel) ⟨Nat.le_of_ble_eq_true rfl, Nat.le_of_ble_eq_true rfl⟩ 20 rfl rfl rfl rfl rfl (Nat.le_of_ble_eq_true rfl) dL_good_40 ⟨Nat.le_of_ble_eq_true rfl, Nat.le_of_ble_eq_true rfl⟩ rfl (fun v hv => ?_)
            obtain rfl := hv
            refine g_st (st' := [_]) rfl ?_
            refine g_topi (oSt (q := r) 4 eN1 (by omega) hm40 rfl (by decide)) ?_
            refine g_istore_n X [(2, _), (0, _), (1, _)] dL_good_43 rfl (by decide) rfl rfl ?_
            refine g_goto X dL_good_44 2 (by decide) ?_
            refine ih r hrk _ ?_ ?_
            · rcases hrt with z | ⟨r2, hr2, z⟩
              · exact Or.inl z
              · exact Or.inr ⟨r2, hr2, by omega, z⟩
            · rw [hG2, e5, e6, h13, h24, h32]; rfl
          · replace h32 := b2i_0 h32
            refine g_iconst (v := (0 : Int32)) X dL_good_35 (by decide) rfl ?_
            refine g_retR X hr (by first | rfl | exact b2i_nar _) dL_good_36 ?_
            exact ret_0 (by rw [hG2, e5, e6]; first | (rw [h13]; rfl) | (rw [h13, h24]; rfl) | (rw [h13, h24, h32]; rfl))
  exact L2 mk (nI q) (Or.inr ⟨q, hq, hq, rfl⟩) (by rw [nI_clamp (by omega), decide_eq_false (nI_pos (by omega)), Bool.false_or])

set_option maxHeartbeats 4000000 in
set_option maxRecDepth 100000 in
theorem c_L_walk (l : Launch) (D : DT) (a : Nat → Nat) (f : Nat → Int32) (na : Nat → Nat → Int32) (w td vl : Nat → Int32) (L pt fl : Nat) (kd : Int32) (kp : Nat) (fq fs : Nat → Option Nat) (tl : va_W) (mk n b : Nat) (hW : WF f mk n b) (hNR : NR f na n) (g d : Nat) (hg : g < 6) (hd : d < 10) (nd : Int32) : MR l yL_walk wsL_walk 5 118 D [.ref (a 19), .int (nI g), .int (nI d), .int (nd)] (wB D a f na w td vl L pt fl kd kp fq fs tl) (fun v => v = some (.int (lwk f g d nd))) := by
  obtain ⟨hmk, hm40, hn8, hb0, hb01, hb08, hn8b, hst, hno, how, hdo, hb0a, hb0c, hb0d, hb0z⟩ := id hW
  have hm8 : n ≤ 8 := by omega
  obtain ⟨eN1, eN2, -⟩ := hW.N
  refine MR.of (cc := cL_walk) (maxL := 7) (ret := (some .int)) (lv := [(0, .ref (a 19)), (1, .int (nI g)), (2, .int (nI d)), (3, .int (nd))]) (by decide +kernel) rfl (Nat.le_of_ble_eq_true rfl) rfl ?_
  intro p e s m below meth c A X hr hmn
  refine g_aload_n X dL_walk_0 rfl 0 rfl rfl ?_
  refine g_iload_n X dL_walk_1 rfl 1 rfl rfl ?_
  refine g_iload_n X dL_walk_2 rfl 2 rfl rfl ?_
  refine g_callVRX (w0 := []) (n := 2) (As := [_, _]) (rest := []) X (c_X6_leads l D a f na w td vl L pt fl kd kp fq fs tl mk n b hW hNR _ _) gL_walk_X6_leads rfl (by decide +kernel) ⟨Nat.le_of_ble_eq_true rfl, Nat.le_of_ble_eq_true rfl⟩ 20 rfl rfl rfl rfl rfl (Nat.le_of_ble_eq_true rfl) dL_walk_3 ⟨Nat.le_of_ble_eq_true rfl, Nat.le_of_ble_eq_true rfl⟩ rfl (fun v hv => ?_)
  obtain rfl := hv
  refine g_st (st' := [_]) rfl ?_
  refine g_topi (oLd (g := g) (d := d) (by omega) (by omega)) ?_
  rcases hdo (10 * g + d) (by omega) with e0 | ⟨t, ht, et⟩
  · refine g_topi ((show ledM f g d = -6 from e0)) ?_
    have hE : wlk f g d nd = (1, 0) := by
      unfold wlk
      rw [show ledM f g d = -6 from e0, if_pos neg6]
      exact wlkI_x (Or.inl neg6)
    refine g_istore X [(4, _), (0, _), (1, _), (2, _), (3, _)] dL_walk_6 (by decide) rfl rfl ?_
    refine g_iload X dL_walk_8 0 rfl rfl ?_
    refine g_if_ge X dL_walk_10 15 (by decide) rfl (fun h10 => absurd h10 (by decide)) (fun h10 => ?_)
    refine g_iconst (v := (1 : Int32)) X dL_walk_13 (by decide) rfl ?_
    refine g_retR X hr (by first | rfl | exact b2i_nar _) dL_walk_14 ?_
    exact ret_x (by unfold lwk; rw [hE]; rfl)
  · replace et : ledM f g d = nI t := et
    obtain ⟨-, -, ⟨ho, hho, eho⟩, -, -, -, -⟩ := id (hst t ht)
    refine g_topi (et) ?_
    refine g_istore X [(4, _), (0, _), (1, _), (2, _), (3, _)] dL_walk_6 (by decide) rfl rfl ?_
    refine g_iload X dL_walk_8 0 rfl rfl ?_
    refine g_if_ge X dL_walk_10 15 (by decide) rfl (fun h10 => ?_) (fun h10 => absurd (nI_ge0 (by omega)) h10)
    have i10 := nj_le (a := 0) (b := t) (by omega) (by omega) h10
    refine g_aload_n X dL_walk_15 rfl 1 rfl rfl ?_
    refine g_iload X dL_walk_16 0 rfl rfl ?_
    refine g_iconst (v := (2 : Int32)) X dL_walk_18 (by decide) rfl ?_
    refine g_callVRX (w0 := []) (n := 2) (As := [_, _]) (rest := []) X (c_X6_ofStamp l D a f na w td vl L pt fl kd kp fq fs tl mk n b hW hNR _ _) gL_walk_X6_ofStamp rfl (by decide +kernel) ⟨Nat.le_of_ble_eq_true rfl, Nat.le_of_ble_eq_true rfl⟩ 20 rfl rfl rfl rfl rfl (Nat.le_of_ble_eq_true rfl) dL_walk_19 ⟨Nat.le_of_ble_eq_true rfl, Nat.le_of_ble_eq_true rfl⟩ rfl (fun v hv => ?_)
    obtain rfl := hv
    refine g_st (st' := [_]) rfl ?_
    refine g_topi (oSt (q := t) 2 eN1 (by omega) hm40 rfl (by decide)) ?_
    refine g_iload_n X dL_walk_22 rfl 2 rfl rfl ?_
    refine g_icmp_eq X dL_walk_23 29 (by decide) rfl (fun h23 => ?_) (fun h23 => ?_)
    · refine g_iconst (v := (0 : Int32)) X dL_walk_29 (by decide) rfl ?_
      refine g_istore X [(5, _), (4, _), (0, _), (1, _), (2, _), (3, _)] dL_walk_30 (by decide) rfl rfl ?_
      refine g_iload X dL_walk_32 1 rfl rfl ?_
      refine g_istore X [(6, _), (5, _), (4, _), (0, _), (1, _), (2, _), (3, _)] dL_walk_34 (by decide) rfl rfl ?_
      have L36 : ∀ (k i : Nat) (x : Int32) (hi : i + k = 40) (hx : x = -6 ∨ ∃ r : Nat, r < k ∧ r < mk ∧ x = nI r) (hR : wlkI f (nI g) nd (nI t) (k + 1) x 0 i = wlk f g d nd), GG p l e (wRoom 5 118 0 0) s m ([.ref (a 19), .int (nI g), .int (nI d), .int (nd)] : List Value).toArray below meth c D A 7 true 0 0 (MQ below (roQ (fun v => v = some (.int (lwk f g d nd)))) ([.ref (a 19), .int (nI g), .int (nI d), .int (nd)] : List Value).toArray s 0 0 (fun _ => False)) (wB D a f na w td vl L pt fl kd kp fq fs tl) 36 [(6, .int (x)), (5, .int (nI (10 * i))), (0, .ref (a 19)), (1, .int (nI g)), (2, .int (nI d)), (3, .int (nd)), (4, .int (nI t))] [] := by
        intro k
        induction k using Nat.strongRecOn with
        | _ k ih =>
        intro i x hi hx hR
        rcases hx with rfl | ⟨r, hrk, hrm, rfl⟩
        · have hE : wlk f g d nd = (0, i) := by rw [← hR]; exact wlkI_x (Or.inl neg6)
          refine g_iload X dL_walk_36 0 rfl rfl ?_
          refine g_if_lt X dL_walk_38 128 (by decide) rfl (fun h38 => ?_) (fun h38 => absurd h38 (by decide))
          refine g_iload X dL_walk_128 1 rfl rfl ?_
          refine g_retR X hr (by first | rfl | exact b2i_nar _) dL_walk_130 ?_
          exact ret_x (lwk_0 hE)
        · obtain ⟨-, -, -, -, hrt, ⟨b5, e5⟩, ⟨b6, e6⟩⟩ := id (hst r hrm)
          have hh : ¬ (decide (nI r = nI t) = true ∧ ¬ ofM f r 2 = nI g) := by
            rintro ⟨z1, z2⟩
            have z3 := of_decide_eq_true z1
            have z4 := nj_eq (a := r) (b := t) (by omega) (by omega) z3
            subst z4
            exact z2 h23
          refine g_iload X dL_walk_36 0 rfl rfl ?_
          refine g_if_lt X dL_walk_38 128 (by decide) rfl (fun h38 => absurd h38 (nI_pos (by omega))) (fun h38 => ?_)
          have i38 := nj_nlt (a := r) (b := 0) (by omega) (by omega) h38
          refine g_iinc (v := nI ((10 * i) + 10)) X [(5, _), (6, _), (0, _), (1, _), (2, _), (3, _), (4, _)] dL_walk_41 1 rfl (nI_add (10 * i) 10) (by decide) rfl rfl ?_
          refine g_aload_n X dL_walk_44 rfl 2 rfl rfl ?_
          refine g_iload X dL_walk_45 1 rfl rfl ?_
          refine g_iconst (v := (5 : Int32)) X dL_walk_47 (by decide) rfl ?_
          refine g_callVRX (w0 := []) (n := 2) (As := [_, _]) (rest := []) X (c_X6_ofStamp l D a f na w td vl L pt fl kd kp fq fs tl mk n b hW hNR _ _) gL_walk_X6_ofStamp rfl (by decide +kernel) ⟨Nat.le_of_ble_eq_true rfl, Nat.le_of_ble_eq_true rfl⟩ 20 rfl rfl rfl rfl rfl (Nat.le_of_ble_eq_true rfl) dL_walk_48 ⟨Nat.le_of_ble_eq_true rfl, Nat.le_of_ble_eq_true rfl⟩ rfl (fun v hv => ?_)
          obtain rfl := hv
          refine g_st (st' := [_]) rfl ?_
          refine g_topi (oSt (q := r) 5 eN1 (by omega) hm40 rfl (by decide)) ?_
          refine g_topi (e5) ?_
          refine g_iconst (v := (1 : Int32)) X dL_walk_51 (by decide) rfl ?_
          refine g_icmp_ne X dL_walk_52 60 (by decide) rfl (fun h52 => ?_) (fun h52 => ?_)
          · replace h52 := b2i_n1 h52
            refine g_aload_n X dL_walk_60 rfl 2 rfl rfl ?_
            refine g_iload X dL_walk_61 1 rfl rfl ?_
            refine g_bipush (v := (6 : Int32)) X dL_walk_63 (by decide) rfl ?_
            refine g_callVRX (w0 := []) (n := 2) (As := [_, _]) (rest := []) X (c_X6_ofStamp l D a f na w td vl L pt fl kd kp fq fs tl mk n b hW hNR _ _) gL_walk_X6_ofStamp rfl (by decide +kernel) ⟨Nat.le_of_ble_eq_true rfl, Nat.le_of_ble_eq_true rfl⟩ 20 rfl rfl rfl rfl rfl (Nat.le_of_ble_eq_true rfl) dL_walk_65 ⟨Nat.le_of_ble_eq_true rfl, Nat.le_of_ble_eq_true rfl⟩ rfl (fun v hv => ?_)
            obtain rfl := hv
            refine g_st (st' := [_]) rfl ?_
            refine g_topi (oSt (q := r) 6 eN1 (by omega) hm40 rfl (by decide)) ?_
            refine g_topi (e6) ?_
            refine g_iconst (v := (1 : Int32)) X dL_walk_68 (by decide) rfl ?_
            refine g_icmp_ne X dL_walk_69 77 (by decide) rfl (fun h69 => ?_) (fun h69 => ?_)
            · replace h69 := b2i_n1 h69
              refine g_iload X dL_walk_77 1 rfl rfl ?_
              refine g_iload X dL_walk_79 6 rfl rfl ?_
              refine g_icmp_ne X dL_walk_81 101 (by decide) rfl (fun h81 => ?_) (fun h81 => ?_)
              · have i81 := nj_ne (a := r) (b := t) (by omega) (by omega) h81
                refine g_aload_n X dL_walk_101 rfl 2 rfl rfl ?_
                refine g_iload X dL_walk_102 1 rfl rfl ?_
                refine g_callSRX (w0 := []) (n := 2) (As := [_, _]) (rest := []) X (c_L_based l D a f na w td vl L pt fl kd kp fq fs tl mk n b hW hNR r (by omega)) gL_walk_L_based rfl (by decide +kernel) ⟨Nat.le_of_ble_eq_true rfl, Nat.le_of_ble_eq_true rfl⟩ rfl rfl rfl (Nat.le_of_ble_eq_true rfl) dL_walk_104 ⟨Nat.le_of_ble_eq_true rfl, Nat.le_of_ble_eq_true rfl⟩ rfl (fun v hv => ?_)
                obtain rfl := hv
                refine g_st (st' := [_]) rfl ?_
                refine g_if_ne X dL_walk_107 116 (by decide) rfl (fun h107 => ?_) (fun h107 => ?_)
                · replace h107 := b2i_n0 h107
                  refine g_aload_n X dL_walk_116 rfl 2 rfl rfl ?_
                  refine g_iload X dL_walk_117 1 rfl rfl ?_
                  refine g_iconst (v := (4 : Int32)) X dL_walk_119 (by decide) rfl ?_
                  refine g_callVRX (w0 := []) (n := 2) (As := [_, _]) (rest := []) X (c_X6_ofStamp l D a f na w td vl L pt fl kd kp fq fs tl mk n b hW hNR _ _) gL_walk_X6_ofStamp rfl (by decide +kernel) ⟨Nat.le_of_ble_eq_true rfl, Nat.le_of_ble_eq_true rfl⟩ 20 rfl rfl rfl rfl rfl (Nat.le_of_ble_eq_true rfl) dL_walk_120 ⟨Nat.le_of_ble_eq_true rfl, Nat.le_of_ble_eq_true rfl⟩ rfl (fun v hv => ?_)
                  obtain rfl := hv
                  refine g_st (st' := [_]) rfl ?_
                  refine g_topi (oSt (q := r) 4 eN1 (by omega) hm40 rfl (by decide)) ?_
                  refine g_istore X [(6, _), (5, _), (0, _), (1, _), (2, _), (3, _), (4, _)] dL_walk_123 (by decide) rfl rfl ?_
                  refine g_lve [(6, .int (ofM f r 4)), (5, .int (nI (10 * (i + 1)))), (0, .ref (a 19)), (1, .int (nI g)), (2, .int (nI d)), (3, .int (nd)), (4, .int (nI t))] (by rw [show 10 * i + 10 = 10 * (i + 1) from by omega]) ?_
                  refine g_goto X dL_walk_125 36 (by decide) ?_
                  refine ih (k - 1) (by omega) (i + 1) _ (by omega) ?_ ?_
                  · rcases hrt with z | ⟨r2, hr2, z⟩
                    · exact Or.inl z
                    · exact Or.inr ⟨r2, by omega, by omega, z⟩
                  · rw [← hR, show k - 1 + 1 = k from by omega, wlkI_s (by omega), show rsnAt f r (decide (nI r = nI t)) (nI g) nd = 0 from by unfold rsnAt; rw [if_neg hh, e5, h52, if_neg (by decide), e6, h69, if_neg (by decide), if_neg (by first | exact fun z => h81 (of_decide_eq_true z.1) | exact fun z => h93 z.2), if_pos h107]]
                · replace h107 := b2i_0 h107
                  refine g_iload X dL_walk_110 0 rfl rfl ?_
                  refine g_bipush (v := (6 : Int32)) X dL_walk_112 (by decide) rfl ?_
                  refine g_iadd X dL_walk_114 rfl ?_
                  refine g_topi (y := nI (((10 * i) + 10) + 6)) (nI_add ((10 * i) + 10) 6) ?_
                  refine g_retR X hr (by first | rfl | exact b2i_nar _) dL_walk_115 ?_
                  have hE : wlk f g d nd = (nI 6, i + 1) := by
                    rw [← hR, wlkI_s (by omega), show rsnAt f r (decide (nI r = nI t)) (nI g) nd = nI 6 from by unfold rsnAt; rw [if_neg hh, e5, h52, if_neg (by decide), e6, h69, if_neg (by decide), if_neg (by first | exact fun z => h81 (of_decide_eq_true z.1) | exact fun z => h93 z.2), if_neg (by rw [h107]; exact Bool.false_ne_true)]; rfl]
                    exact wlkI_x (Or.inr (by decide))
                  exact ret_x (lwk_of hE)
              · have i81 := nj_eq (a := r) (b := t) (by omega) (by omega) h81
                refine g_aload_n X dL_walk_84 rfl 2 rfl rfl ?_
                refine g_iload X dL_walk_85 1 rfl rfl ?_
                refine g_iconst (v := (3 : Int32)) X dL_walk_87 (by decide) rfl ?_
                refine g_callVRX (w0 := []) (n := 2) (As := [_, _]) (rest := []) X (c_X6_ofStamp l D a f na w td vl L pt fl kd kp fq fs tl mk n b hW hNR _ _) gL_walk_X6_ofStamp rfl (by decide +kernel) ⟨Nat.le_of_ble_eq_true rfl, Nat.le_of_ble_eq_true rfl⟩ 20 rfl rfl rfl rfl rfl (Nat.le_of_ble_eq_true rfl) dL_walk_88 ⟨Nat.le_of_ble_eq_true rfl, Nat.le_of_ble_eq_true rfl⟩ rfl (fun v hv => ?_)
                obtain rfl := hv
                refine g_st (st' := [_]) rfl ?_
                refine g_topi (oSt (q := r) 3 eN1 (by omega) hm40 rfl (by decide)) ?_
                refine g_iload_n X dL_walk_91 rfl 5 rfl rfl ?_
                refine g_iand X dL_walk_92 rfl ?_
                refine g_if_ne X dL_walk_93 101 (by decide) rfl (fun h93 => ?_) (fun h93 => ?_)
                · refine g_aload_n X dL_walk_101 rfl 2 rfl rfl ?_
                  refine g_iload X dL_walk_102 1 rfl rfl ?_
                  refine g_callSRX (w0 := []) (n := 2) (As := [_, _]) (rest := []) X (c_L_based l D a f na w td vl L pt fl kd kp fq fs tl mk n b hW hNR r (by omega)) gL_walk_L_based rfl (by decide +kernel) ⟨Nat.le_of_ble_eq_true rfl, Nat.le_of_ble_eq_true rfl⟩ rfl rfl rfl (Nat.le_of_ble_eq_true rfl) dL_walk_104 ⟨Nat.le_of_ble_eq_true rfl, Nat.le_of_ble_eq_true rfl⟩ rfl (fun v hv => ?_)
                  obtain rfl := hv
                  refine g_st (st' := [_]) rfl ?_
                  refine g_if_ne X dL_walk_107 116 (by decide) rfl (fun h107 => ?_) (fun h107 => ?_)
                  · replace h107 := b2i_n0 h107
                    refine g_aload_n X dL_walk_116 rfl 2 rfl rfl ?_
                    refine g_iload X dL_walk_117 1 rfl rfl ?_
                    refine g_iconst (v := (4 : Int32)) X dL_walk_119 (by decide) rfl ?_
                    refine g_callVRX (w0 := []) (n := 2) (As := [_, _]) (rest := []) X (c_X6_ofStamp l D a f na w td vl L pt fl kd kp fq fs tl mk n b hW hNR _ _) gL_walk_X6_ofStamp rfl (by decide +kernel) ⟨Nat.le_of_ble_eq_true rfl, Nat.le_of_ble_eq_true rfl⟩ 20 rfl rfl rfl rfl rfl (Nat.le_of_ble_eq_true rfl) dL_walk_120 ⟨Nat.le_of_ble_eq_true rfl, Nat.le_of_ble_eq_true rfl⟩ rfl (fun v hv => ?_)
                    obtain rfl := hv
                    refine g_st (st' := [_]) rfl ?_
                    refine g_topi (oSt (q := r) 4 eN1 (by omega) hm40 rfl (by decide)) ?_
                    refine g_istore X [(6, _), (5, _), (0, _), (1, _), (2, _), (3, _), (4, _)] dL_walk_123 (by decide) rfl rfl ?_
                    refine g_lve [(6, .int (ofM f r 4)), (5, .int (nI (10 * (i + 1)))), (0, .ref (a 19)), (1, .int (nI g)), (2, .int (nI d)), (3, .int (nd)), (4, .int (nI t))] (by rw [show 10 * i + 10 = 10 * (i + 1) from by omega]) ?_
                    refine g_goto X dL_walk_125 36 (by decide) ?_
                    refine ih (k - 1) (by omega) (i + 1) _ (by omega) ?_ ?_
                    · rcases hrt with z | ⟨r2, hr2, z⟩
                      · exact Or.inl z
                      · exact Or.inr ⟨r2, by omega, by omega, z⟩
                    · rw [← hR, show k - 1 + 1 = k from by omega, wlkI_s (by omega), show rsnAt f r (decide (nI r = nI t)) (nI g) nd = 0 from by unfold rsnAt; rw [if_neg hh, e5, h52, if_neg (by decide), e6, h69, if_neg (by decide), if_neg (by first | exact fun z => h81 (of_decide_eq_true z.1) | exact fun z => h93 z.2), if_pos h107]]
                  · replace h107 := b2i_0 h107
                    refine g_iload X dL_walk_110 0 rfl rfl ?_
                    refine g_bipush (v := (6 : Int32)) X dL_walk_112 (by decide) rfl ?_
                    refine g_iadd X dL_walk_114 rfl ?_
                    refine g_topi (y := nI (((10 * i) + 10) + 6)) (nI_add ((10 * i) + 10) 6) ?_
                    refine g_retR X hr (by first | rfl | exact b2i_nar _) dL_walk_115 ?_
                    have hE : wlk f g d nd = (nI 6, i + 1) := by
                      rw [← hR, wlkI_s (by omega), show rsnAt f r (decide (nI r = nI t)) (nI g) nd = nI 6 from by unfold rsnAt; rw [if_neg hh, e5, h52, if_neg (by decide), e6, h69, if_neg (by decide), if_neg (by first | exact fun z => h81 (of_decide_eq_true z.1) | exact fun z => h93 z.2), if_neg (by rw [h107]; exact Bool.false_ne_true)]; rfl]
                      exact wlkI_x (Or.inr (by decide))
                    exact ret_x (lwk_of hE)
                · refine g_iload X dL_walk_96 0 rfl rfl ?_
                  refine g_iconst (v := (5 : Int32)) X dL_walk_98 (by decide) rfl ?_
                  refine g_iadd X dL_walk_99 rfl ?_
                  refine g_topi (y := nI (((10 * i) + 10) + 5)) (nI_add ((10 * i) + 10) 5) ?_
                  refine g_retR X hr (by first | rfl | exact b2i_nar _) dL_walk_100 ?_
                  have hE : wlk f g d nd = (nI 5, i + 1) := by
                    rw [← hR, wlkI_s (by omega), show rsnAt f r (decide (nI r = nI t)) (nI g) nd = nI 5 from by unfold rsnAt; rw [if_neg hh, e5, h52, if_neg (by decide), e6, h69, if_neg (by decide), if_pos ⟨decide_eq_true h81, h93⟩]; rfl]
                    exact wlkI_x (Or.inr (by decide))
                  exact ret_x (lwk_of hE)
            · replace h69 := b2i_1 h69
              refine g_iload X dL_walk_72 0 rfl rfl ?_
              refine g_iconst (v := (4 : Int32)) X dL_walk_74 (by decide) rfl ?_
              refine g_iadd X dL_walk_75 rfl ?_
              refine g_topi (y := nI (((10 * i) + 10) + 4)) (nI_add ((10 * i) + 10) 4) ?_
              refine g_retR X hr (by first | rfl | exact b2i_nar _) dL_walk_76 ?_
              have hE : wlk f g d nd = (nI 4, i + 1) := by
                rw [← hR, wlkI_s (by omega), show rsnAt f r (decide (nI r = nI t)) (nI g) nd = nI 4 from by unfold rsnAt; rw [if_neg hh, e5, h52, if_neg (by decide), e6, h69, if_pos (by decide)]; rfl]
                exact wlkI_x (Or.inr (by decide))
              exact ret_x (lwk_of hE)
          · replace h52 := b2i_1 h52
            refine g_iload X dL_walk_55 0 rfl rfl ?_
            refine g_iconst (v := (3 : Int32)) X dL_walk_57 (by decide) rfl ?_
            refine g_iadd X dL_walk_58 rfl ?_
            refine g_topi (y := nI (((10 * i) + 10) + 3)) (nI_add ((10 * i) + 10) 3) ?_
            refine g_retR X hr (by first | rfl | exact b2i_nar _) dL_walk_59 ?_
            have hE : wlk f g d nd = (nI 3, i + 1) := by
              rw [← hR, wlkI_s (by omega), show rsnAt f r (decide (nI r = nI t)) (nI g) nd = nI 3 from by unfold rsnAt; rw [if_neg hh, e5, h52, if_pos (by decide)]; rfl]
              exact wlkI_x (Or.inr (by decide))
            exact ret_x (lwk_of hE)
      refine g_lv [0, 1, 3, 4, 5, 6, 2] [(6, _), (5, _), (0, _), (1, _), (2, _), (3, _), (4, _)] rfl ?_
      refine L36 40 0 _ (by omega) (Or.inr ⟨t, by omega, ht, rfl⟩) ?_
      unfold wlk
      rw [et, if_neg (nI_pos (by omega))]
    · refine g_bipush (v := (12 : Int32)) X dL_walk_26 (by decide) rfl ?_
      refine g_retR X hr (by first | rfl | exact b2i_nar _) dL_walk_28 ?_
      have hE : wlk f g d nd = (2, 1) := by
        unfold wlk
        rw [et, if_neg (nI_pos (by omega)), wlkI_s (by omega), show rsnAt f t (decide (nI t = nI t)) (nI g) nd = 2 from by unfold rsnAt; rw [if_pos ⟨decide_eq_true rfl, h23⟩]]
        exact wlkI_x (Or.inr (by decide))
      exact ret_x (by unfold lwk; rw [hE]; rfl)

set_option maxHeartbeats 4000000 in
set_option maxRecDepth 100000 in
theorem c_L_who (l : Launch) (D : DT) (a : Nat → Nat) (f : Nat → Int32) (na : Nat → Nat → Int32) (w td vl : Nat → Int32) (L pt fl : Nat) (kd : Int32) (kp : Nat) (fq fs : Nat → Option Nat) (tl : va_W) (mk n b : Nat) (hW : WF f mk n b) (hNR : NR f na n) (pq : Nat) (hp12 : pq < 12) (rt x : Int32) (hx : x = -1 ∨ ∃ t : Nat, t < mk ∧ x = nI t) : MR l yL_who wsL_who 6 140 D [.ref (a 19), .int (nI pq), .int (rt), .int (x)] (wB D a f na w td vl L pt fl kd kp fq fs tl) (fun v => v = some (.int (whI f (gW f x) pq rt mk))) := by
  obtain ⟨hmk, hm40, hn8, hb0, hb01, hb08, hn8b, hst, hno, how, hdo, hb0a, hb0c, hb0d, hb0z⟩ := id hW
  have hm8 : n ≤ 8 := by omega
  obtain ⟨eN1, eN2, -⟩ := hW.N
  refine MR.of (cc := cL_who) (maxL := 8) (ret := (some .int)) (lv := [(0, .ref (a 19)), (1, .int (nI pq)), (2, .int (rt)), (3, .int (x))]) (by decide +kernel) rfl (Nat.le_of_ble_eq_true rfl) rfl ?_
  intro p e s m below meth c A X hr hmn
  refine g_aload_n X dL_who_0 rfl 0 rfl rfl ?_
  refine g_iload_n X dL_who_1 rfl 1 rfl rfl ?_
  refine g_iconst (v := (0 : Int32)) X dL_who_2 (by decide) rfl ?_
  refine g_callVRX (w0 := []) (n := 2) (As := [_, _]) (rest := []) X (c_X6_ofPage l D a f na w td vl L pt fl kd kp fq fs tl mk n b hW hNR _ _) gL_who_X6_ofPage rfl (by decide +kernel) ⟨Nat.le_of_ble_eq_true rfl, Nat.le_of_ble_eq_true rfl⟩ 20 rfl rfl rfl rfl rfl (Nat.le_of_ble_eq_true rfl) dL_who_3 ⟨Nat.le_of_ble_eq_true rfl, Nat.le_of_ble_eq_true rfl⟩ rfl (fun v hv => ?_)
  obtain rfl := hv
  refine g_st (st' := [_]) rfl ?_
  refine g_topi (oPg0 (p := pq) (by omega)) ?_
  rcases how pq hp12 with e6 | ⟨og, hog, eg⟩
  · refine g_topi (e6) ?_
    refine g_if_lt X dL_who_6 20 (by decide) rfl (fun h6 => ?_) (fun h6 => absurd h6 (by decide))
    refine g_iconst (v := (0 : Int32)) X dL_who_20 (by decide) rfl ?_
    refine g_istore X [(4, _), (0, _), (1, _), (2, _), (3, _)] dL_who_21 (by decide) rfl rfl ?_
    refine g_iconst (v := (0 : Int32)) X dL_who_23 (by decide) rfl ?_
    refine g_istore X [(5, _), (4, _), (0, _), (1, _), (2, _), (3, _)] dL_who_24 (by decide) rfl rfl ?_
    have L26 : ∀ (j i : Nat) (v : Int32) (hi : i ≤ mk) (hj : mk - i = j) (hV : v = whI f (gW f x) pq rt i), GG p l e (wRoom 6 140 0 0) s m ([.ref (a 19), .int (nI pq), .int (rt), .int (x)] : List Value).toArray below meth c D A 8 true 0 0 (MQ below (roQ (fun v => v = some (.int (whI f (gW f x) pq rt mk)))) ([.ref (a 19), .int (nI pq), .int (rt), .int (x)] : List Value).toArray s 0 0 (fun _ => False)) (wB D a f na w td vl L pt fl kd kp fq fs tl) 26 [(5, .int (nI i)), (4, .int (v)), (0, .ref (a 19)), (1, .int (nI pq)), (2, .int (rt)), (3, .int (x))] [] := by
      intro j
      induction j using Nat.strongRecOn with
      | _ j ih =>
      intro i v hi hj hV
      refine g_iload X dL_who_26 0 rfl rfl ?_
      refine g_aload_n X dL_who_28 rfl 2 rfl rfl ?_
      refine g_iconst (v := (0 : Int32)) X dL_who_29 (by decide) rfl ?_
      refine g_callVRX (w0 := []) (n := 1) (As := [_]) (rest := [_]) X (c_X6_count l D a f na w td vl L pt fl kd kp fq fs tl mk n b hW hNR _) gL_who_X6_count rfl (by decide +kernel) ⟨Nat.le_of_ble_eq_true rfl, Nat.le_of_ble_eq_true rfl⟩ 20 rfl rfl rfl rfl rfl (Nat.le_of_ble_eq_true rfl) dL_who_30 ⟨Nat.le_of_ble_eq_true rfl, Nat.le_of_ble_eq_true rfl⟩ rfl (fun v hv => ?_)
      obtain rfl := hv
      refine g_st (st' := [_, _]) rfl ?_
      refine g_topi (oC0.trans hmk) ?_
      refine g_icmp_ge X dL_who_33 129 (by decide) rfl (fun h33 => ?_) (fun h33 => ?_)
      · have i33 := nj_le (a := mk) (b := i) (by omega) (by omega) h33
        have hii : i = mk := by omega
        subst hii
        subst hV
        refine g_iload X dL_who_129 1 rfl rfl ?_
        refine g_retR X hr (by first | rfl | exact b2i_nar _) dL_who_131 ?_
        rfl
      · have i33 := nj_nle (a := mk) (b := i) (by omega) (by omega) h33
        refine g_aload_n X dL_who_36 rfl 2 rfl rfl ?_
        refine g_iload X dL_who_37 0 rfl rfl ?_
        refine g_iconst (v := (0 : Int32)) X dL_who_39 (by decide) rfl ?_
        refine g_callVRX (w0 := []) (n := 2) (As := [_, _]) (rest := []) X (c_X6_ofStamp l D a f na w td vl L pt fl kd kp fq fs tl mk n b hW hNR _ _) gL_who_X6_ofStamp rfl (by decide +kernel) ⟨Nat.le_of_ble_eq_true rfl, Nat.le_of_ble_eq_true rfl⟩ 20 rfl rfl rfl rfl rfl (Nat.le_of_ble_eq_true rfl) dL_who_40 ⟨Nat.le_of_ble_eq_true rfl, Nat.le_of_ble_eq_true rfl⟩ rfl (fun v hv => ?_)
        obtain rfl := hv
        refine g_st (st' := [_]) rfl ?_
        refine g_topi (oSt (q := i) 0 eN1 (by omega) hm40 rfl (by decide)) ?_
        refine g_iload_n X dL_who_43 rfl 3 rfl rfl ?_
        refine g_icmp_ne X dL_who_44 123 (by decide) rfl (fun h44 => ?_) (fun h44 => ?_)
        · refine g_iinc (v := nI (i + 1)) X [(5, _), (4, _), (0, _), (1, _), (2, _), (3, _)] dL_who_123 0 rfl (nI_add i 1) (by decide) rfl rfl ?_
          refine g_goto X dL_who_126 26 (by decide) ?_
          refine ih (mk - (i + 1)) (by omega) (i + 1) _ (by omega) rfl ?_
          rw [whI, hV]
          rw [if_neg (by rw [decide_eq_false (p := ofM f i 0 = nI pq) h44]; simp), Int32.or_zero]
        · refine g_aload_n X dL_who_47 rfl 2 rfl rfl ?_
          refine g_iload X dL_who_48 0 rfl rfl ?_
          refine g_iconst (v := (3 : Int32)) X dL_who_50 (by decide) rfl ?_
          refine g_callVRX (w0 := []) (n := 2) (As := [_, _]) (rest := []) X (c_X6_ofStamp l D a f na w td vl L pt fl kd kp fq fs tl mk n b hW hNR _ _) gL_who_X6_ofStamp rfl (by decide +kernel) ⟨Nat.le_of_ble_eq_true rfl, Nat.le_of_ble_eq_true rfl⟩ 20 rfl rfl rfl rfl rfl (Nat.le_of_ble_eq_true rfl) dL_who_51 ⟨Nat.le_of_ble_eq_true rfl, Nat.le_of_ble_eq_true rfl⟩ rfl (fun v hv => ?_)
          obtain rfl := hv
          refine g_st (st' := [_]) rfl ?_
          refine g_topi (oSt (q := i) 3 eN1 (by omega) hm40 rfl (by decide)) ?_
          refine g_iload_n X dL_who_54 rfl 4 rfl rfl ?_
          refine g_iand X dL_who_55 rfl ?_
          refine g_if_eq X dL_who_56 123 (by decide) rfl (fun h56 => ?_) (fun h56 => ?_)
          · refine g_iinc (v := nI (i + 1)) X [(5, _), (4, _), (0, _), (1, _), (2, _), (3, _)] dL_who_123 0 rfl (nI_add i 1) (by decide) rfl rfl ?_
            refine g_goto X dL_who_126 26 (by decide) ?_
            refine ih (mk - (i + 1)) (by omega) (i + 1) _ (by omega) rfl ?_
            rw [whI, hV]
            rw [if_neg (by rw [decide_eq_false (p := ¬ ofM f i 3 &&& rt = 0) (not_not_intro h56)]; simp), Int32.or_zero]
          · refine g_aload_n X dL_who_59 rfl 2 rfl rfl ?_
            refine g_iload X dL_who_60 0 rfl rfl ?_
            refine g_callSRX (w0 := []) (n := 2) (As := [_, _]) (rest := []) X (c_L_good l D a f na w td vl L pt fl kd kp fq fs tl mk n b hW hNR i (by omega)) gL_who_L_good rfl (by decide +kernel) ⟨Nat.le_of_ble_eq_true rfl, Nat.le_of_ble_eq_true rfl⟩ rfl rfl rfl (Nat.le_of_ble_eq_true rfl) dL_who_62 ⟨Nat.le_of_ble_eq_true rfl, Nat.le_of_ble_eq_true rfl⟩ rfl (fun v hv => ?_)
            obtain rfl := hv
            refine g_st (st' := [_]) rfl ?_
            refine g_if_ne X dL_who_65 71 (by decide) rfl (fun h65 => ?_) (fun h65 => ?_)
            · replace h65 := b2i_n0 h65
              refine g_iconst (v := (0 : Int32)) X dL_who_71 (by decide) rfl ?_
              refine g_istore X [(6, _), (5, _), (4, _), (0, _), (1, _), (2, _), (3, _)] dL_who_72 (by decide) rfl rfl ?_
              refine g_iload X dL_who_74 1 rfl rfl ?_
              refine g_istore X [(7, _), (6, _), (5, _), (4, _), (0, _), (1, _), (2, _), (3, _)] dL_who_76 (by decide) rfl rfl ?_
              have L78 : ∀ (k : Nat) (y : Int32) (bb : Bool) (hy : y = -6 ∨ ∃ r : Nat, r < k ∧ r < mk ∧ y = nI r) (hB : inC f x i = (bb || (decide (¬ y < 0) && inC f x y.toNatClampNeg))), GG p l e (wRoom 6 140 0 0) s m ([.ref (a 19), .int (nI pq), .int (rt), .int (x)] : List Value).toArray below meth c D A 8 true 0 0 (MQ below (roQ (fun v => v = some (.int (whI f (gW f x) pq rt mk)))) ([.ref (a 19), .int (nI pq), .int (rt), .int (x)] : List Value).toArray s 0 0 (fun _ => False)) (wB D a f na w td vl L pt fl kd kp fq fs tl) 78 [(7, .int (y)), (6, .int (b2i bb)), (5, .int (nI i)), (4, .int (v)), (0, .ref (a 19)), (1, .int (nI pq)), (2, .int (rt)), (3, .int (x))] [] := by
                intro k
                induction k using Nat.strongRecOn with
                | _ k ihk =>
                intro y bb hy hB
                rcases hy with rfl | ⟨r, hrk, hrm, rfl⟩
                · have hIn : inC f x i = bb := by rw [hB, decide_eq_false (not_not_intro neg6), Bool.false_and, Bool.or_false]
                  refine g_iload X dL_who_78 0 rfl rfl ?_
                  refine g_if_lt X dL_who_80 104 (by decide) rfl (fun h80 => ?_) (fun h80 => absurd h80 (by decide))
                  refine g_iload X dL_who_104 1 rfl rfl ?_
                  refine g_if_ne X dL_who_106 123 (by decide) rfl (fun h106 => ?_) (fun h106 => ?_)
                  · replace h106 := b2i_n0 h106
                    refine g_iinc (v := nI (i + 1)) X [(5, _), (7, _), (6, _), (4, _), (0, _), (1, _), (2, _), (3, _)] dL_who_123 2 rfl (nI_add i 1) (by decide) rfl rfl ?_
                    refine g_goto X dL_who_126 26 (by decide) ?_
                    refine g_lv [0, 3, 4, 5, 6, 7] [(5, _), (4, _), (0, _), (1, _), (2, _), (3, _)] rfl ?_
                    refine ih (mk - (i + 1)) (by omega) (i + 1) _ (by omega) rfl ?_
                    rw [whI, hV]
                    rw [if_neg (by unfold gW; rw [hIn, h106]; simp), Int32.or_zero]
                  · replace h106 := b2i_0 h106
                    refine g_iload X dL_who_109 3 rfl rfl ?_
                    refine g_iconst (v := (1 : Int32)) X dL_who_111 (by decide) rfl ?_
                    refine g_aload_n X dL_who_112 rfl 4 rfl rfl ?_
                    refine g_iload X dL_who_113 2 rfl rfl ?_
                    refine g_iconst (v := (2 : Int32)) X dL_who_115 (by decide) rfl ?_
                    refine g_callVRX (w0 := []) (n := 2) (As := [_, _]) (rest := [_, _]) X (c_X6_ofStamp l D a f na w td vl L pt fl kd kp fq fs tl mk n b hW hNR _ _) gL_who_X6_ofStamp rfl (by decide +kernel) ⟨Nat.le_of_ble_eq_true rfl, Nat.le_of_ble_eq_true rfl⟩ 20 rfl rfl rfl rfl rfl (Nat.le_of_ble_eq_true rfl) dL_who_116 ⟨Nat.le_of_ble_eq_true rfl, Nat.le_of_ble_eq_true rfl⟩ rfl (fun v hv => ?_)
                    obtain rfl := hv
                    refine g_st (st' := [_, _, _]) rfl ?_
                    refine g_topi (oSt (q := i) 2 eN1 (by omega) hm40 rfl (by decide)) ?_
                    refine g_ishl X dL_who_119 rfl ?_
                    refine g_ior X dL_who_120 rfl ?_
                    refine g_istore X [(4, _), (7, _), (6, _), (5, _), (0, _), (1, _), (2, _), (3, _)] dL_who_121 (by decide) rfl rfl ?_
                    refine g_iinc (v := nI (i + 1)) X [(5, _), (4, _), (7, _), (6, _), (0, _), (1, _), (2, _), (3, _)] dL_who_123 3 rfl (nI_add i 1) (by decide) rfl rfl ?_
                    refine g_goto X dL_who_126 26 (by decide) ?_
                    refine g_lv [0, 1, 4, 5, 6, 7] [(5, _), (4, _), (0, _), (1, _), (2, _), (3, _)] rfl ?_
                    refine ih (mk - (i + 1)) (by omega) (i + 1) _ (by omega) rfl ?_
                    rw [whI, hV]
                    rw [if_pos (by unfold gW; rw [h65, hIn, h106, decide_eq_true (p := ofM f i 0 = nI pq) h44, decide_eq_true (p := ¬ ofM f i 3 &&& rt = 0) h56]; rfl)]
                · obtain ⟨-, -, -, -, hrt, -, -⟩ := id (hst r hrm)
                  refine g_iload X dL_who_78 0 rfl rfl ?_
                  refine g_if_lt X dL_who_80 104 (by decide) rfl (fun h80 => absurd h80 (nI_pos (by omega))) (fun h80 => ?_)
                  have i80 := nj_nlt (a := r) (b := 0) (by omega) (by omega) h80
                  refine g_iload X dL_who_83 0 rfl rfl ?_
                  refine g_iload_n X dL_who_85 rfl 7 rfl rfl ?_
                  refine g_icmp_ne X dL_who_86 92 (by decide) rfl (fun h86 => ?_) (fun h86 => ?_)
                  · refine g_aload_n X dL_who_92 rfl 4 rfl rfl ?_
                    refine g_iload X dL_who_93 0 rfl rfl ?_
                    refine g_iconst (v := (4 : Int32)) X dL_who_95 (by decide) rfl ?_
                    refine g_callVRX (w0 := []) (n := 2) (As := [_, _]) (rest := []) X (c_X6_ofStamp l D a f na w td vl L pt fl kd kp fq fs tl mk n b hW hNR _ _) gL_who_X6_ofStamp rfl (by decide +kernel) ⟨Nat.le_of_ble_eq_true rfl, Nat.le_of_ble_eq_true rfl⟩ 20 rfl rfl rfl rfl rfl (Nat.le_of_ble_eq_true rfl) dL_who_96 ⟨Nat.le_of_ble_eq_true rfl, Nat.le_of_ble_eq_true rfl⟩ rfl (fun v hv => ?_)
                    obtain rfl := hv
                    refine g_st (st' := [_]) rfl ?_
                    refine g_topi (oSt (q := r) 4 eN1 (by omega) hm40 rfl (by decide)) ?_
                    refine g_istore X [(7, _), (6, _), (5, _), (4, _), (0, _), (1, _), (2, _), (3, _)] dL_who_99 (by decide) rfl rfl ?_
                    refine g_goto X dL_who_101 78 (by decide) ?_
                    refine ihk r hrk _ _ ?_ ?_
                    · rcases hrt with z | ⟨r2, hr2, z⟩
                      · exact Or.inl z
                      · exact Or.inr ⟨r2, hr2, by omega, z⟩
                    · rw [hB, decide_eq_true (nI_pos (by omega)), Bool.true_and, nI_clamp (by omega), inC_s hst hm40 hrm hx]
                      rw [decide_eq_false (p := nI r = x) h86, Bool.false_or]
                  · refine g_iconst (v := (1 : Int32)) X dL_who_89 (by decide) rfl ?_
                    refine g_topi ((show (1 : Int32) = b2i true from rfl)) ?_
                    refine g_istore X [(6, _), (7, _), (5, _), (4, _), (0, _), (1, _), (2, _), (3, _)] dL_who_90 (by decide) rfl rfl ?_
                    refine g_aload_n X dL_who_92 rfl 4 rfl rfl ?_
                    refine g_iload X dL_who_93 1 rfl rfl ?_
                    refine g_iconst (v := (4 : Int32)) X dL_who_95 (by decide) rfl ?_
                    refine g_callVRX (w0 := []) (n := 2) (As := [_, _]) (rest := []) X (c_X6_ofStamp l D a f na w td vl L pt fl kd kp fq fs tl mk n b hW hNR _ _) gL_who_X6_ofStamp rfl (by decide +kernel) ⟨Nat.le_of_ble_eq_true rfl, Nat.le_of_ble_eq_true rfl⟩ 20 rfl rfl rfl rfl rfl (Nat.le_of_ble_eq_true rfl) dL_who_96 ⟨Nat.le_of_ble_eq_true rfl, Nat.le_of_ble_eq_true rfl⟩ rfl (fun v hv => ?_)
                    obtain rfl := hv
                    refine g_st (st' := [_]) rfl ?_
                    refine g_topi (oSt (q := r) 4 eN1 (by omega) hm40 rfl (by decide)) ?_
                    refine g_istore X [(7, _), (6, _), (5, _), (4, _), (0, _), (1, _), (2, _), (3, _)] dL_who_99 (by decide) rfl rfl ?_
                    refine g_goto X dL_who_101 78 (by decide) ?_
                    refine ihk r hrk _ _ ?_ ?_
                    · rcases hrt with z | ⟨r2, hr2, z⟩
                      · exact Or.inl z
                      · exact Or.inr ⟨r2, hr2, by omega, z⟩
                    · rw [hB, decide_eq_true (nI_pos (by omega)), Bool.true_and, nI_clamp (by omega), inC_s hst hm40 hrm hx]
                      rw [decide_eq_true (p := nI r = x) h86, Bool.true_or, Bool.or_true]
              exact L78 mk (nI i) false (Or.inr ⟨i, by omega, by omega, rfl⟩) (by rw [nI_clamp (by omega), decide_eq_true (nI_pos (by omega))]; rfl)
            · replace h65 := b2i_0 h65
              refine g_goto X dL_who_68 123 (by decide) ?_
              refine g_iinc (v := nI (i + 1)) X [(5, _), (4, _), (0, _), (1, _), (2, _), (3, _)] dL_who_123 0 rfl (nI_add i 1) (by decide) rfl rfl ?_
              refine g_goto X dL_who_126 26 (by decide) ?_
              refine ih (mk - (i + 1)) (by omega) (i + 1) _ (by omega) rfl ?_
              rw [whI, hV]
              rw [if_neg (by unfold gW; rw [h65]; simp), Int32.or_zero]
    refine L26 mk 0 _ (by omega) rfl ?_
    show _ = whO f pq
    unfold whO
    first
    | rw [if_pos (by rw [e6]; exact neg6)]
    | rw [if_neg (by rw [eg]; exact nI_pos (by omega)), eg]
  · refine g_topi (eg) ?_
    refine g_if_lt X dL_who_6 20 (by decide) rfl (fun h6 => absurd h6 (nI_pos (by omega))) (fun h6 => ?_)
    have i6 := nj_nlt (a := og) (b := 0) (by omega) (by omega) h6
    refine g_iconst (v := (1 : Int32)) X dL_who_9 (by decide) rfl ?_
    refine g_aload_n X dL_who_10 rfl 0 rfl rfl ?_
    refine g_iload_n X dL_who_11 rfl 1 rfl rfl ?_
    refine g_iconst (v := (0 : Int32)) X dL_who_12 (by decide) rfl ?_
    refine g_callVRX (w0 := []) (n := 2) (As := [_, _]) (rest := [_]) X (c_X6_ofPage l D a f na w td vl L pt fl kd kp fq fs tl mk n b hW hNR _ _) gL_who_X6_ofPage rfl (by decide +kernel) ⟨Nat.le_of_ble_eq_true rfl, Nat.le_of_ble_eq_true rfl⟩ 20 rfl rfl rfl rfl rfl (Nat.le_of_ble_eq_true rfl) dL_who_13 ⟨Nat.le_of_ble_eq_true rfl, Nat.le_of_ble_eq_true rfl⟩ rfl (fun v hv => ?_)
    obtain rfl := hv
    refine g_st (st' := [_, _]) rfl ?_
    refine g_topi (oPg0 (p := pq) (by omega)) ?_
    refine g_topi (eg) ?_
    refine g_ishl X dL_who_16 rfl ?_
    refine g_goto X dL_who_17 21 (by decide) ?_
    refine g_istore X [(4, _), (0, _), (1, _), (2, _), (3, _)] dL_who_21 (by decide) rfl rfl ?_
    refine g_iconst (v := (0 : Int32)) X dL_who_23 (by decide) rfl ?_
    refine g_istore X [(5, _), (4, _), (0, _), (1, _), (2, _), (3, _)] dL_who_24 (by decide) rfl rfl ?_
    have L26 : ∀ (j i : Nat) (v : Int32) (hi : i ≤ mk) (hj : mk - i = j) (hV : v = whI f (gW f x) pq rt i), GG p l e (wRoom 6 140 0 0) s m ([.ref (a 19), .int (nI pq), .int (rt), .int (x)] : List Value).toArray below meth c D A 8 true 0 0 (MQ below (roQ (fun v => v = some (.int (whI f (gW f x) pq rt mk)))) ([.ref (a 19), .int (nI pq), .int (rt), .int (x)] : List Value).toArray s 0 0 (fun _ => False)) (wB D a f na w td vl L pt fl kd kp fq fs tl) 26 [(5, .int (nI i)), (4, .int (v)), (0, .ref (a 19)), (1, .int (nI pq)), (2, .int (rt)), (3, .int (x))] [] := by
      intro j
      induction j using Nat.strongRecOn with
      | _ j ih =>
      intro i v hi hj hV
      refine g_iload X dL_who_26 0 rfl rfl ?_
      refine g_aload_n X dL_who_28 rfl 2 rfl rfl ?_
      refine g_iconst (v := (0 : Int32)) X dL_who_29 (by decide) rfl ?_
      refine g_callVRX (w0 := []) (n := 1) (As := [_]) (rest := [_]) X (c_X6_count l D a f na w td vl L pt fl kd kp fq fs tl mk n b hW hNR _) gL_who_X6_count rfl (by decide +kernel) ⟨Nat.le_of_ble_eq_true rfl, Nat.le_of_ble_eq_true rfl⟩ 20 rfl rfl rfl rfl rfl (Nat.le_of_ble_eq_true rfl) dL_who_30 ⟨Nat.le_of_ble_eq_true rfl, Nat.le_of_ble_eq_true rfl⟩ rfl (fun v hv => ?_)
      obtain rfl := hv
      refine g_st (st' := [_, _]) rfl ?_
      refine g_topi (oC0.trans hmk) ?_
      refine g_icmp_ge X dL_who_33 129 (by decide) rfl (fun h33 => ?_) (fun h33 => ?_)
      · have i33 := nj_le (a := mk) (b := i) (by omega) (by omega) h33
        have hii : i = mk := by omega
        subst hii
        subst hV
        refine g_iload X dL_who_129 1 rfl rfl ?_
        refine g_retR X hr (by first | rfl | exact b2i_nar _) dL_who_131 ?_
        rfl
      · have i33 := nj_nle (a := mk) (b := i) (by omega) (by omega) h33
        refine g_aload_n X dL_who_36 rfl 2 rfl rfl ?_
        refine g_iload X dL_who_37 0 rfl rfl ?_
        refine g_iconst (v := (0 : Int32)) X dL_who_39 (by decide) rfl ?_
        refine g_callVRX (w0 := []) (n := 2) (As := [_, _]) (rest := []) X (c_X6_ofStamp l D a f na w td vl L pt fl kd kp fq fs tl mk n b hW hNR _ _) gL_who_X6_ofStamp rfl (by decide +kernel) ⟨Nat.le_of_ble_eq_true rfl, Nat.le_of_ble_eq_true rfl⟩ 20 rfl rfl rfl rfl rfl (Nat.le_of_ble_eq_true rfl) dL_who_40 ⟨Nat.le_of_ble_eq_true rfl, Nat.le_of_ble_eq_true rfl⟩ rfl (fun v hv => ?_)
        obtain rfl := hv
        refine g_st (st' := [_]) rfl ?_
        refine g_topi (oSt (q := i) 0 eN1 (by omega) hm40 rfl (by decide)) ?_
        refine g_iload_n X dL_who_43 rfl 3 rfl rfl ?_
        refine g_icmp_ne X dL_who_44 123 (by decide) rfl (fun h44 => ?_) (fun h44 => ?_)
        · refine g_iinc (v := nI (i + 1)) X [(5, _), (4, _), (0, _), (1, _), (2, _), (3, _)] dL_who_123 0 rfl (nI_add i 1) (by decide) rfl rfl ?_
          refine g_goto X dL_who_126 26 (by decide) ?_
          refine ih (mk - (i + 1)) (by omega) (i + 1) _ (by omega) rfl ?_
          rw [whI, hV]
          rw [if_neg (by rw [decide_eq_false (p := ofM f i 0 = nI pq) h44]; simp), Int32.or_zero]
        · refine g_aload_n X dL_who_47 rfl 2 rfl rfl ?_
          refine g_iload X dL_who_48 0 rfl rfl ?_
          refine g_iconst (v := (3 : Int32)) X dL_who_50 (by decide) rfl ?_
          refine g_callVRX (w0 := []) (n := 2) (As := [_, _]) (rest := []) X (c_X6_ofStamp l D a f na w td vl L pt fl kd kp fq fs tl mk n b hW hNR _ _) gL_who_X6_ofStamp rfl (by decide +kernel) ⟨Nat.le_of_ble_eq_true rfl, Nat.le_of_ble_eq_true rfl⟩ 20 rfl rfl rfl rfl rfl (Nat.le_of_ble_eq_true rfl) dL_who_51 ⟨Nat.le_of_ble_eq_true rfl, Nat.le_of_ble_eq_true rfl⟩ rfl (fun v hv => ?_)
          obtain rfl := hv
          refine g_st (st' := [_]) rfl ?_
          refine g_topi (oSt (q := i) 3 eN1 (by omega) hm40 rfl (by decide)) ?_
          refine g_iload_n X dL_who_54 rfl 4 rfl rfl ?_
          refine g_iand X dL_who_55 rfl ?_
          refine g_if_eq X dL_who_56 123 (by decide) rfl (fun h56 => ?_) (fun h56 => ?_)
          · refine g_iinc (v := nI (i + 1)) X [(5, _), (4, _), (0, _), (1, _), (2, _), (3, _)] dL_who_123 0 rfl (nI_add i 1) (by decide) rfl rfl ?_
            refine g_goto X dL_who_126 26 (by decide) ?_
            refine ih (mk - (i + 1)) (by omega) (i + 1) _ (by omega) rfl ?_
            rw [whI, hV]
            rw [if_neg (by rw [decide_eq_false (p := ¬ ofM f i 3 &&& rt = 0) (not_not_intro h56)]; simp), Int32.or_zero]
          · refine g_aload_n X dL_who_59 rfl 2 rfl rfl ?_
            refine g_iload X dL_who_60 0 rfl rfl ?_
            refine g_callSRX (w0 := []) (n := 2) (As := [_, _]) (rest := []) X (c_L_good l D a f na w td vl L pt fl kd kp fq fs tl mk n b hW hNR i (by omega)) gL_who_L_good rfl (by decide +kernel) ⟨Nat.le_of_ble_eq_true rfl, Nat.le_of_ble_eq_true rfl⟩ rfl rfl rfl (Nat.le_of_ble_eq_true rfl) dL_who_62 ⟨Nat.le_of_ble_eq_true rfl, Nat.le_of_ble_eq_true rfl⟩ rfl (fun v hv => ?_)
            obtain rfl := hv
            refine g_st (st' := [_]) rfl ?_
            refine g_if_ne X dL_who_65 71 (by decide) rfl (fun h65 => ?_) (fun h65 => ?_)
            · replace h65 := b2i_n0 h65
              refine g_iconst (v := (0 : Int32)) X dL_who_71 (by decide) rfl ?_
              refine g_istore X [(6, _), (5, _), (4, _), (0, _), (1, _), (2, _), (3, _)] dL_who_72 (by decide) rfl rfl ?_
              refine g_iload X dL_who_74 1 rfl rfl ?_
              refine g_istore X [(7, _), (6, _), (5, _), (4, _), (0, _), (1, _), (2, _), (3, _)] dL_who_76 (by decide) rfl rfl ?_
              have L78 : ∀ (k : Nat) (y : Int32) (bb : Bool) (hy : y = -6 ∨ ∃ r : Nat, r < k ∧ r < mk ∧ y = nI r) (hB : inC f x i = (bb || (decide (¬ y < 0) && inC f x y.toNatClampNeg))), GG p l e (wRoom 6 140 0 0) s m ([.ref (a 19), .int (nI pq), .int (rt), .int (x)] : List Value).toArray below meth c D A 8 true 0 0 (MQ below (roQ (fun v => v = some (.int (whI f (gW f x) pq rt mk)))) ([.ref (a 19), .int (nI pq), .int (rt), .int (x)] : List Value).toArray s 0 0 (fun _ => False)) (wB D a f na w td vl L pt fl kd kp fq fs tl) 78 [(7, .int (y)), (6, .int (b2i bb)), (5, .int (nI i)), (4, .int (v)), (0, .ref (a 19)), (1, .int (nI pq)), (2, .int (rt)), (3, .int (x))] [] := by
                intro k
                induction k using Nat.strongRecOn with
                | _ k ihk =>
                intro y bb hy hB
                rcases hy with rfl | ⟨r, hrk, hrm, rfl⟩
                · have hIn : inC f x i = bb := by rw [hB, decide_eq_false (not_not_intro neg6), Bool.false_and, Bool.or_false]
                  refine g_iload X dL_who_78 0 rfl rfl ?_
                  refine g_if_lt X dL_who_80 104 (by decide) rfl (fun h80 => ?_) (fun h80 => absurd h80 (by decide))
                  refine g_iload X dL_who_104 1 rfl rfl ?_
                  refine g_if_ne X dL_who_106 123 (by decide) rfl (fun h106 => ?_) (fun h106 => ?_)
                  · replace h106 := b2i_n0 h106
                    refine g_iinc (v := nI (i + 1)) X [(5, _), (7, _), (6, _), (4, _), (0, _), (1, _), (2, _), (3, _)] dL_who_123 2 rfl (nI_add i 1) (by decide) rfl rfl ?_
                    refine g_goto X dL_who_126 26 (by decide) ?_
                    refine g_lv [0, 3, 4, 5, 6, 7] [(5, _), (4, _), (0, _), (1, _), (2, _), (3, _)] rfl ?_
                    refine ih (mk - (i + 1)) (by omega) (i + 1) _ (by omega) rfl ?_
                    rw [whI, hV]
                    rw [if_neg (by unfold gW; rw [hIn, h106]; simp), Int32.or_zero]
                  · replace h106 := b2i_0 h106
                    refine g_iload X dL_who_109 3 rfl rfl ?_
                    refine g_iconst (v := (1 : Int32)) X dL_who_111 (by decide) rfl ?_
                    refine g_aload_n X dL_who_112 rfl 4 rfl rfl ?_
                    refine g_iload X dL_who_113 2 rfl rfl ?_
                    refine g_iconst (v := (2 : Int32)) X dL_who_115 (by decide) rfl ?_
                    refine g_callVRX (w0 := []) (n := 2) (As := [_, _]) (rest := [_, _]) X (c_X6_ofStamp l D a f na w td vl L pt fl kd kp fq fs tl mk n b hW hNR _ _) gL_who_X6_ofStamp rfl (by decide +kernel) ⟨Nat.le_of_ble_eq_true rfl, Nat.le_of_ble_eq_true rfl⟩ 20 rfl rfl rfl rfl rfl (Nat.le_of_ble_eq_true rfl) dL_who_116 ⟨Nat.le_of_ble_eq_true rfl, Nat.le_of_ble_eq_true rfl⟩ rfl (fun v hv => ?_)
                    obtain rfl := hv
                    refine g_st (st' := [_, _, _]) rfl ?_
                    refine g_topi (oSt (q := i) 2 eN1 (by omega) hm40 rfl (by decide)) ?_
                    refine g_ishl X dL_who_119 rfl ?_
                    refine g_ior X dL_who_120 rfl ?_
                    refine g_istore X [(4, _), (7, _), (6, _), (5, _), (0, _), (1, _), (2, _), (3, _)] dL_who_121 (by decide) rfl rfl ?_
                    refine g_iinc (v := nI (i + 1)) X [(5, _), (4, _), (7, _), (6, _), (0, _), (1, _), (2, _), (3, _)] dL_who_123 3 rfl (nI_add i 1) (by decide) rfl rfl ?_
                    refine g_goto X dL_who_126 26 (by decide) ?_
                    refine g_lv [0, 1, 4, 5, 6, 7] [(5, _), (4, _), (0, _), (1, _), (2, _), (3, _)] rfl ?_
                    refine ih (mk - (i + 1)) (by omega) (i + 1) _ (by omega) rfl ?_
                    rw [whI, hV]
                    rw [if_pos (by unfold gW; rw [h65, hIn, h106, decide_eq_true (p := ofM f i 0 = nI pq) h44, decide_eq_true (p := ¬ ofM f i 3 &&& rt = 0) h56]; rfl)]
                · obtain ⟨-, -, -, -, hrt, -, -⟩ := id (hst r hrm)
                  refine g_iload X dL_who_78 0 rfl rfl ?_
                  refine g_if_lt X dL_who_80 104 (by decide) rfl (fun h80 => absurd h80 (nI_pos (by omega))) (fun h80 => ?_)
                  have i80 := nj_nlt (a := r) (b := 0) (by omega) (by omega) h80
                  refine g_iload X dL_who_83 0 rfl rfl ?_
                  refine g_iload_n X dL_who_85 rfl 7 rfl rfl ?_
                  refine g_icmp_ne X dL_who_86 92 (by decide) rfl (fun h86 => ?_) (fun h86 => ?_)
                  · refine g_aload_n X dL_who_92 rfl 4 rfl rfl ?_
                    refine g_iload X dL_who_93 0 rfl rfl ?_
                    refine g_iconst (v := (4 : Int32)) X dL_who_95 (by decide) rfl ?_
                    refine g_callVRX (w0 := []) (n := 2) (As := [_, _]) (rest := []) X (c_X6_ofStamp l D a f na w td vl L pt fl kd kp fq fs tl mk n b hW hNR _ _) gL_who_X6_ofStamp rfl (by decide +kernel) ⟨Nat.le_of_ble_eq_true rfl, Nat.le_of_ble_eq_true rfl⟩ 20 rfl rfl rfl rfl rfl (Nat.le_of_ble_eq_true rfl) dL_who_96 ⟨Nat.le_of_ble_eq_true rfl, Nat.le_of_ble_eq_true rfl⟩ rfl (fun v hv => ?_)
                    obtain rfl := hv
                    refine g_st (st' := [_]) rfl ?_
                    refine g_topi (oSt (q := r) 4 eN1 (by omega) hm40 rfl (by decide)) ?_
                    refine g_istore X [(7, _), (6, _), (5, _), (4, _), (0, _), (1, _), (2, _), (3, _)] dL_who_99 (by decide) rfl rfl ?_
                    refine g_goto X dL_who_101 78 (by decide) ?_
                    refine ihk r hrk _ _ ?_ ?_
                    · rcases hrt with z | ⟨r2, hr2, z⟩
                      · exact Or.inl z
                      · exact Or.inr ⟨r2, hr2, by omega, z⟩
                    · rw [hB, decide_eq_true (nI_pos (by omega)), Bool.true_and, nI_clamp (by omega), inC_s hst hm40 hrm hx]
                      rw [decide_eq_false (p := nI r = x) h86, Bool.false_or]
                  · refine g_iconst (v := (1 : Int32)) X dL_who_89 (by decide) rfl ?_
                    refine g_topi ((show (1 : Int32) = b2i true from rfl)) ?_
                    refine g_istore X [(6, _), (7, _), (5, _), (4, _), (0, _), (1, _), (2, _), (3, _)] dL_who_90 (by decide) rfl rfl ?_
                    refine g_aload_n X dL_who_92 rfl 4 rfl rfl ?_
                    refine g_iload X dL_who_93 1 rfl rfl ?_
                    refine g_iconst (v := (4 : Int32)) X dL_who_95 (by decide) rfl ?_
                    refine g_callVRX (w0 := []) (n := 2) (As := [_, _]) (rest := []) X (c_X6_ofStamp l D a f na w td vl L pt fl kd kp fq fs tl mk n b hW hNR _ _) gL_who_X6_ofStamp rfl (by decide +kernel) ⟨Nat.le_of_ble_eq_true rfl, Nat.le_of_ble_eq_true rfl⟩ 20 rfl rfl rfl rfl rfl (Nat.le_of_ble_eq_true rfl) dL_who_96 ⟨Nat.le_of_ble_eq_true rfl, Nat.le_of_ble_eq_true rfl⟩ rfl (fun v hv => ?_)
                    obtain rfl := hv
                    refine g_st (st' := [_]) rfl ?_
                    refine g_topi (oSt (q := r) 4 eN1 (by omega) hm40 rfl (by decide)) ?_
                    refine g_istore X [(7, _), (6, _), (5, _), (4, _), (0, _), (1, _), (2, _), (3, _)] dL_who_99 (by decide) rfl rfl ?_
                    refine g_goto X dL_who_101 78 (by decide) ?_
                    refine ihk r hrk _ _ ?_ ?_
                    · rcases hrt with z | ⟨r2, hr2, z⟩
                      · exact Or.inl z
                      · exact Or.inr ⟨r2, hr2, by omega, z⟩
                    · rw [hB, decide_eq_true (nI_pos (by omega)), Bool.true_and, nI_clamp (by omega), inC_s hst hm40 hrm hx]
                      rw [decide_eq_true (p := nI r = x) h86, Bool.true_or, Bool.or_true]
              exact L78 mk (nI i) false (Or.inr ⟨i, by omega, by omega, rfl⟩) (by rw [nI_clamp (by omega), decide_eq_true (nI_pos (by omega))]; rfl)
            · replace h65 := b2i_0 h65
              refine g_goto X dL_who_68 123 (by decide) ?_
              refine g_iinc (v := nI (i + 1)) X [(5, _), (4, _), (0, _), (1, _), (2, _), (3, _)] dL_who_123 0 rfl (nI_add i 1) (by decide) rfl rfl ?_
              refine g_goto X dL_who_126 26 (by decide) ?_
              refine ih (mk - (i + 1)) (by omega) (i + 1) _ (by omega) rfl ?_
              rw [whI, hV]
              rw [if_neg (by unfold gW; rw [h65]; simp), Int32.or_zero]
    refine L26 mk 0 _ (by omega) rfl ?_
    show _ = whO f pq
    unfold whO
    first
    | rw [if_pos (by rw [e6]; exact neg6)]
    | rw [if_neg (by rw [eg]; exact nI_pos (by omega)), eg]

set_option maxHeartbeats 4000000 in
set_option maxRecDepth 100000 in
theorem c_L_noted (l : Launch) (D : DT) (a : Nat → Nat) (f : Nat → Int32) (na : Nat → Nat → Int32) (w td vl : Nat → Int32) (L pt fl : Nat) (kd : Int32) (kp : Nat) (fq fs : Nat → Option Nat) (tl : va_W) (mk n b : Nat) (hW : WF f mk n b) (hNR : NR f na n) (g d x : Nat) (hx8 : x < 2 ^ 31) (hg : g < 2 ^ 31) (hd : d < 2 ^ 31) (hnn : x = 0 ∨ ∀ k, k < n → ¬ (noteM f k 0 = nI g ∧ noteM f k 1 = nI d)) : MR l yL_noted wsL_noted 4 93 D [.ref (a 19), .int (nI g), .int (nI d), .int (nI x)] (wB D a f na w td vl L pt fl kd kp fq fs tl) (fun v => v = some (.int (0))) := by
  obtain ⟨hmk, hm40, hn8, hb0, hb01, hb08, hn8b, hst, hno, how, hdo, hb0a, hb0c, hb0d, hb0z⟩ := id hW
  have hm8 : n ≤ 8 := by omega
  obtain ⟨eN1, eN2, -⟩ := hW.N
  refine MR.of (cc := cL_noted) (maxL := 5) (ret := (some .boolean)) (lv := [(0, .ref (a 19)), (1, .int (nI g)), (2, .int (nI d)), (3, .int (nI x))]) (by decide +kernel) rfl (Nat.le_of_ble_eq_true rfl) rfl ?_
  intro p e s m below meth c A X hr hmn
  refine g_iconst (v := (0 : Int32)) X dL_noted_0 (by decide) rfl ?_
  refine g_istore X [(4, _), (0, _), (1, _), (2, _), (3, _)] dL_noted_1 (by decide) rfl rfl ?_
  have L3 : ∀ (j i : Nat) (hi : i ≤ n) (hj : n - i = j), GG p l e (wRoom 4 93 0 0) s m ([.ref (a 19), .int (nI g), .int (nI d), .int (nI x)] : List Value).toArray below meth c D A 5 true 0 0 (MQ below (roQ (fun v => v = some (.int (0)))) ([.ref (a 19), .int (nI g), .int (nI d), .int (nI x)] : List Value).toArray s 0 0 (fun _ => False)) (wB D a f na w td vl L pt fl kd kp fq fs tl) 3 [(4, .int (nI i)), (0, .ref (a 19)), (1, .int (nI g)), (2, .int (nI d)), (3, .int (nI x))] [] := by
    intro j
    induction j using Nat.strongRecOn with
    | _ j ih =>
    intro i hi hj
    refine g_iload X dL_noted_3 0 rfl rfl ?_
    refine g_aload_n X dL_noted_5 rfl 1 rfl rfl ?_
    refine g_iconst (v := (2 : Int32)) X dL_noted_6 (by decide) rfl ?_
    refine g_callVRX (w0 := []) (n := 1) (As := [_]) (rest := [_]) X (c_X6_count l D a f na w td vl L pt fl kd kp fq fs tl mk n b hW hNR _) gL_noted_X6_count rfl (by decide +kernel) ⟨Nat.le_of_ble_eq_true rfl, Nat.le_of_ble_eq_true rfl⟩ 20 rfl rfl rfl rfl rfl (Nat.le_of_ble_eq_true rfl) dL_noted_7 ⟨Nat.le_of_ble_eq_true rfl, Nat.le_of_ble_eq_true rfl⟩ rfl (fun v hv => ?_)
    obtain rfl := hv
    refine g_st (st' := [_, _]) rfl ?_
    refine g_topi (oC2.trans hn8) ?_
    refine g_icmp_ge X dL_noted_10 47 (by decide) rfl (fun h10 => ?_) (fun h10 => ?_)
    · have i10 := nj_le (a := n) (b := i) (by omega) (by omega) h10
      refine g_iconst (v := (0 : Int32)) X dL_noted_47 (by decide) rfl ?_
      refine g_retR X hr (by first | rfl | exact b2i_nar _) dL_noted_48 ?_
      rfl
    · have i10 := nj_nle (a := n) (b := i) (by omega) (by omega) h10
      refine g_iload_n X dL_noted_13 rfl 4 rfl rfl ?_
      refine g_if_le X dL_noted_14 47 (by decide) rfl (fun h14 => ?_) (fun h14 => ?_)
      · have i14 := nj_le (a := x) (b := 0) (by omega) (by omega) h14
        refine g_iconst (v := (0 : Int32)) X dL_noted_47 (by decide) rfl ?_
        refine g_retR X hr (by first | rfl | exact b2i_nar _) dL_noted_48 ?_
        rfl
      · have i14 := nj_nle (a := x) (b := 0) (by omega) (by omega) h14
        refine g_aload_n X dL_noted_17 rfl 1 rfl rfl ?_
        refine g_iload X dL_noted_18 0 rfl rfl ?_
        refine g_iconst (v := (0 : Int32)) X dL_noted_20 (by decide) rfl ?_
        refine g_callVRX (w0 := []) (n := 2) (As := [_, _]) (rest := []) X (c_X6_note l D a f na w td vl L pt fl kd kp fq fs tl mk n b hW hNR _ _) gL_noted_X6_note rfl (by decide +kernel) ⟨Nat.le_of_ble_eq_true rfl, Nat.le_of_ble_eq_true rfl⟩ 20 rfl rfl rfl rfl rfl (Nat.le_of_ble_eq_true rfl) dL_noted_21 ⟨Nat.le_of_ble_eq_true rfl, Nat.le_of_ble_eq_true rfl⟩ rfl (fun v hv => ?_)
        obtain rfl := hv
        refine g_st (st' := [_]) rfl ?_
        refine g_topi (oNt (k := i) 0 eN2 (by omega) hm8 rfl (by decide)) ?_
        refine g_iload_n X dL_noted_24 rfl 2 rfl rfl ?_
        refine g_icmp_ne X dL_noted_25 41 (by decide) rfl (fun h25 => ?_) (fun h25 => ?_)
        · refine g_iinc (v := nI (i + 1)) X [(4, _), (0, _), (1, _), (2, _), (3, _)] dL_noted_41 0 rfl (nI_add i 1) (by decide) rfl rfl ?_
          refine g_goto X dL_noted_44 3 (by decide) ?_
          exact ih (n - (i + 1)) (by omega) (i + 1) (by omega) rfl
        · refine g_aload_n X dL_noted_28 rfl 1 rfl rfl ?_
          refine g_iload X dL_noted_29 0 rfl rfl ?_
          refine g_iconst (v := (1 : Int32)) X dL_noted_31 (by decide) rfl ?_
          refine g_callVRX (w0 := []) (n := 2) (As := [_, _]) (rest := []) X (c_X6_note l D a f na w td vl L pt fl kd kp fq fs tl mk n b hW hNR _ _) gL_noted_X6_note rfl (by decide +kernel) ⟨Nat.le_of_ble_eq_true rfl, Nat.le_of_ble_eq_true rfl⟩ 20 rfl rfl rfl rfl rfl (Nat.le_of_ble_eq_true rfl) dL_noted_32 ⟨Nat.le_of_ble_eq_true rfl, Nat.le_of_ble_eq_true rfl⟩ rfl (fun v hv => ?_)
          obtain rfl := hv
          refine g_st (st' := [_]) rfl ?_
          refine g_topi (oNt (k := i) 1 eN2 (by omega) hm8 rfl (by decide)) ?_
          refine g_iload_n X dL_noted_35 rfl 3 rfl rfl ?_
          refine g_icmp_ne X dL_noted_36 41 (by decide) rfl (fun h36 => ?_) (fun h36 => ?_)
          · refine g_iinc (v := nI (i + 1)) X [(4, _), (0, _), (1, _), (2, _), (3, _)] dL_noted_41 0 rfl (nI_add i 1) (by decide) rfl rfl ?_
            refine g_goto X dL_noted_44 3 (by decide) ?_
            exact ih (n - (i + 1)) (by omega) (i + 1) (by omega) rfl
          · refine g_iconst (v := (1 : Int32)) X dL_noted_39 (by decide) rfl ?_
            refine g_retR X hr (by first | rfl | exact b2i_nar _) dL_noted_40 ?_
            exact absurd ⟨h25, h36⟩ ((hnn.resolve_left (by omega)) i (by omega))
  exact L3 n 0 (by omega) rfl

set_option maxHeartbeats 4000000 in
set_option maxRecDepth 100000 in
theorem c_L_made (l : Launch) (D : DT) (a : Nat → Nat) (f : Nat → Int32) (na : Nat → Nat → Int32) (w td vl : Nat → Int32) (L pt fl : Nat) (kd : Int32) (kp : Nat) (fq fs : Nat → Option Nat) (tl : va_W) (mk n b : Nat) (hW : WF f mk n b) (hNR : NR f na n) (q : Nat) (hq : q < mk) (hmq : mk = q + 1) (pg gv hd rt ro fo : Int32) (e0 : ofM f q 0 = pg) (e1 : ofM f q 1 = gv) (e2 : ofM f q 2 = hd) (e3 : ofM f q 3 = rt) (e4 : ofM f q 4 = ro) (e5 : ofM f q 5 = fo) (e6 : ofM f q 6 = 0) (e7 : b2i (gd f q) = 1 - fo) : MR l yL_made wsL_made 4 95 D [.ref (a 19), .int (nI q), .int (pg), .int (gv), .int (hd), .int (rt), .int (ro), .int (fo)] (wB D a f na w td vl L pt fl kd kp fq fs tl) (fun v => v = some (.int (1))) := by
  obtain ⟨hmk, hm40, hn8, hb0, hb01, hb08, hn8b, hst, hno, how, hdo, hb0a, hb0c, hb0d, hb0z⟩ := id hW
  have hm8 : n ≤ 8 := by omega
  obtain ⟨eN1, eN2, -⟩ := hW.N
  refine MR.of (cc := cL_made) (maxL := 8) (ret := (some .boolean)) (lv := [(0, .ref (a 19)), (1, .int (nI q)), (2, .int (pg)), (3, .int (gv)), (4, .int (hd)), (5, .int (rt)), (6, .int (ro)), (7, .int (fo))]) (by decide +kernel) rfl (Nat.le_of_ble_eq_true rfl) rfl ?_
  intro p e s m below meth c A X hr hmn
  refine g_aload_n X dL_made_0 rfl 0 rfl rfl ?_
  refine g_iconst (v := (0 : Int32)) X dL_made_1 (by decide) rfl ?_
  refine g_callVRX (w0 := []) (n := 1) (As := [_]) (rest := []) X (c_X6_count l D a f na w td vl L pt fl kd kp fq fs tl mk n b hW hNR _) gL_made_X6_count rfl (by decide +kernel) ⟨Nat.le_of_ble_eq_true rfl, Nat.le_of_ble_eq_true rfl⟩ 20 rfl rfl rfl rfl rfl (Nat.le_of_ble_eq_true rfl) dL_made_2 ⟨Nat.le_of_ble_eq_true rfl, Nat.le_of_ble_eq_true rfl⟩ rfl (fun v hv => ?_)
  obtain rfl := hv
  refine g_st (st' := [_]) rfl ?_
  refine g_topi (oC0.trans hmk) ?_
  refine g_topi ((show nI mk = nI (q + 1) from by rw [hmq])) ?_
  refine g_iload_n X dL_made_5 rfl 1 rfl rfl ?_
  refine g_iconst (v := (1 : Int32)) X dL_made_6 (by decide) rfl ?_
  refine g_iadd X dL_made_7 rfl ?_
  refine g_topi (y := nI (q + 1)) (nI_add q 1) ?_
  refine g_icmp_ne X dL_made_8 113 (by decide) rfl (fun h8 => absurd rfl h8) (fun h8 => ?_)
  refine g_aload_n X dL_made_11 rfl 0 rfl rfl ?_
  refine g_iload_n X dL_made_12 rfl 1 rfl rfl ?_
  refine g_iconst (v := (0 : Int32)) X dL_made_13 (by decide) rfl ?_
  refine g_callVRX (w0 := []) (n := 2) (As := [_, _]) (rest := []) X (c_X6_ofStamp l D a f na w td vl L pt fl kd kp fq fs tl mk n b hW hNR _ _) gL_made_X6_ofStamp rfl (by decide +kernel) ⟨Nat.le_of_ble_eq_true rfl, Nat.le_of_ble_eq_true rfl⟩ 20 rfl rfl rfl rfl rfl (Nat.le_of_ble_eq_true rfl) dL_made_14 ⟨Nat.le_of_ble_eq_true rfl, Nat.le_of_ble_eq_true rfl⟩ rfl (fun v hv => ?_)
  obtain rfl := hv
  refine g_st (st' := [_]) rfl ?_
  refine g_topi (oSt (q := q) 0 eN1 (by omega) hm40 rfl (by decide)) ?_
  refine g_topi (e0) ?_
  refine g_iload_n X dL_made_17 rfl 2 rfl rfl ?_
  refine g_icmp_ne X dL_made_18 113 (by decide) rfl (fun h18 => absurd rfl h18) (fun h18 => ?_)
  refine g_aload_n X dL_made_21 rfl 0 rfl rfl ?_
  refine g_iload_n X dL_made_22 rfl 1 rfl rfl ?_
  refine g_iconst (v := (1 : Int32)) X dL_made_23 (by decide) rfl ?_
  refine g_callVRX (w0 := []) (n := 2) (As := [_, _]) (rest := []) X (c_X6_ofStamp l D a f na w td vl L pt fl kd kp fq fs tl mk n b hW hNR _ _) gL_made_X6_ofStamp rfl (by decide +kernel) ⟨Nat.le_of_ble_eq_true rfl, Nat.le_of_ble_eq_true rfl⟩ 20 rfl rfl rfl rfl rfl (Nat.le_of_ble_eq_true rfl) dL_made_24 ⟨Nat.le_of_ble_eq_true rfl, Nat.le_of_ble_eq_true rfl⟩ rfl (fun v hv => ?_)
  obtain rfl := hv
  refine g_st (st' := [_]) rfl ?_
  refine g_topi (oSt (q := q) 1 eN1 (by omega) hm40 rfl (by decide)) ?_
  refine g_topi (e1) ?_
  refine g_iload_n X dL_made_27 rfl 3 rfl rfl ?_
  refine g_icmp_ne X dL_made_28 113 (by decide) rfl (fun h28 => absurd rfl h28) (fun h28 => ?_)
  refine g_aload_n X dL_made_31 rfl 0 rfl rfl ?_
  refine g_iload_n X dL_made_32 rfl 1 rfl rfl ?_
  refine g_iconst (v := (2 : Int32)) X dL_made_33 (by decide) rfl ?_
  refine g_callVRX (w0 := []) (n := 2) (As := [_, _]) (rest := []) X (c_X6_ofStamp l D a f na w td vl L pt fl kd kp fq fs tl mk n b hW hNR _ _) gL_made_X6_ofStamp rfl (by decide +kernel) ⟨Nat.le_of_ble_eq_true rfl, Nat.le_of_ble_eq_true rfl⟩ 20 rfl rfl rfl rfl rfl (Nat.le_of_ble_eq_true rfl) dL_made_34 ⟨Nat.le_of_ble_eq_true rfl, Nat.le_of_ble_eq_true rfl⟩ rfl (fun v hv => ?_)
  obtain rfl := hv
  refine g_st (st' := [_]) rfl ?_
  refine g_topi (oSt (q := q) 2 eN1 (by omega) hm40 rfl (by decide)) ?_
  refine g_topi (e2) ?_
  refine g_iload X dL_made_37 4 rfl rfl ?_
  refine g_icmp_ne X dL_made_39 113 (by decide) rfl (fun h39 => absurd rfl h39) (fun h39 => ?_)
  refine g_aload_n X dL_made_42 rfl 0 rfl rfl ?_
  refine g_iload_n X dL_made_43 rfl 1 rfl rfl ?_
  refine g_iconst (v := (3 : Int32)) X dL_made_44 (by decide) rfl ?_
  refine g_callVRX (w0 := []) (n := 2) (As := [_, _]) (rest := []) X (c_X6_ofStamp l D a f na w td vl L pt fl kd kp fq fs tl mk n b hW hNR _ _) gL_made_X6_ofStamp rfl (by decide +kernel) ⟨Nat.le_of_ble_eq_true rfl, Nat.le_of_ble_eq_true rfl⟩ 20 rfl rfl rfl rfl rfl (Nat.le_of_ble_eq_true rfl) dL_made_45 ⟨Nat.le_of_ble_eq_true rfl, Nat.le_of_ble_eq_true rfl⟩ rfl (fun v hv => ?_)
  obtain rfl := hv
  refine g_st (st' := [_]) rfl ?_
  refine g_topi (oSt (q := q) 3 eN1 (by omega) hm40 rfl (by decide)) ?_
  refine g_topi (e3) ?_
  refine g_iload X dL_made_48 5 rfl rfl ?_
  refine g_icmp_ne X dL_made_50 113 (by decide) rfl (fun h50 => absurd rfl h50) (fun h50 => ?_)
  refine g_aload_n X dL_made_53 rfl 0 rfl rfl ?_
  refine g_iload_n X dL_made_54 rfl 1 rfl rfl ?_
  refine g_iconst (v := (4 : Int32)) X dL_made_55 (by decide) rfl ?_
  refine g_callVRX (w0 := []) (n := 2) (As := [_, _]) (rest := []) X (c_X6_ofStamp l D a f na w td vl L pt fl kd kp fq fs tl mk n b hW hNR _ _) gL_made_X6_ofStamp rfl (by decide +kernel) ⟨Nat.le_of_ble_eq_true rfl, Nat.le_of_ble_eq_true rfl⟩ 20 rfl rfl rfl rfl rfl (Nat.le_of_ble_eq_true rfl) dL_made_56 ⟨Nat.le_of_ble_eq_true rfl, Nat.le_of_ble_eq_true rfl⟩ rfl (fun v hv => ?_)
  obtain rfl := hv
  refine g_st (st' := [_]) rfl ?_
  refine g_topi (oSt (q := q) 4 eN1 (by omega) hm40 rfl (by decide)) ?_
  refine g_topi (e4) ?_
  refine g_iload X dL_made_59 6 rfl rfl ?_
  refine g_icmp_ne X dL_made_61 113 (by decide) rfl (fun h61 => absurd rfl h61) (fun h61 => ?_)
  refine g_aload_n X dL_made_64 rfl 0 rfl rfl ?_
  refine g_iload_n X dL_made_65 rfl 1 rfl rfl ?_
  refine g_iconst (v := (5 : Int32)) X dL_made_66 (by decide) rfl ?_
  refine g_callVRX (w0 := []) (n := 2) (As := [_, _]) (rest := []) X (c_X6_ofStamp l D a f na w td vl L pt fl kd kp fq fs tl mk n b hW hNR _ _) gL_made_X6_ofStamp rfl (by decide +kernel) ⟨Nat.le_of_ble_eq_true rfl, Nat.le_of_ble_eq_true rfl⟩ 20 rfl rfl rfl rfl rfl (Nat.le_of_ble_eq_true rfl) dL_made_67 ⟨Nat.le_of_ble_eq_true rfl, Nat.le_of_ble_eq_true rfl⟩ rfl (fun v hv => ?_)
  obtain rfl := hv
  refine g_st (st' := [_]) rfl ?_
  refine g_topi (oSt (q := q) 5 eN1 (by omega) hm40 rfl (by decide)) ?_
  refine g_topi (e5) ?_
  refine g_iload X dL_made_70 7 rfl rfl ?_
  refine g_icmp_ne X dL_made_72 113 (by decide) rfl (fun h72 => absurd rfl h72) (fun h72 => ?_)
  refine g_aload_n X dL_made_75 rfl 0 rfl rfl ?_
  refine g_iload_n X dL_made_76 rfl 1 rfl rfl ?_
  refine g_bipush (v := (6 : Int32)) X dL_made_77 (by decide) rfl ?_
  refine g_callVRX (w0 := []) (n := 2) (As := [_, _]) (rest := []) X (c_X6_ofStamp l D a f na w td vl L pt fl kd kp fq fs tl mk n b hW hNR _ _) gL_made_X6_ofStamp rfl (by decide +kernel) ⟨Nat.le_of_ble_eq_true rfl, Nat.le_of_ble_eq_true rfl⟩ 20 rfl rfl rfl rfl rfl (Nat.le_of_ble_eq_true rfl) dL_made_79 ⟨Nat.le_of_ble_eq_true rfl, Nat.le_of_ble_eq_true rfl⟩ rfl (fun v hv => ?_)
  obtain rfl := hv
  refine g_st (st' := [_]) rfl ?_
  refine g_topi (oSt (q := q) 6 eN1 (by omega) hm40 rfl (by decide)) ?_
  refine g_topi (e6) ?_
  refine g_if_ne X dL_made_82 113 (by decide) rfl (fun h82 => absurd h82 (by decide)) (fun h82 => ?_)
  refine g_aload_n X dL_made_85 rfl 0 rfl rfl ?_
  refine g_iload_n X dL_made_86 rfl 1 rfl rfl ?_
  refine g_bipush (v := (7 : Int32)) X dL_made_87 (by decide) rfl ?_
  refine g_callVRX (w0 := []) (n := 2) (As := [_, _]) (rest := []) X (c_X6_ofStamp l D a f na w td vl L pt fl kd kp fq fs tl mk n b hW hNR _ _) gL_made_X6_ofStamp rfl (by decide +kernel) ⟨Nat.le_of_ble_eq_true rfl, Nat.le_of_ble_eq_true rfl⟩ 20 rfl rfl rfl rfl rfl (Nat.le_of_ble_eq_true rfl) dL_made_89 ⟨Nat.le_of_ble_eq_true rfl, Nat.le_of_ble_eq_true rfl⟩ rfl (fun v hv => ?_)
  obtain rfl := hv
  refine g_st (st' := [_]) rfl ?_
  refine g_topi (oSt7 (q := q) eN1 (by omega) hm40) ?_
  refine g_topi (e7) ?_
  refine g_iconst (v := (1 : Int32)) X dL_made_92 (by decide) rfl ?_
  refine g_iload X dL_made_93 7 rfl rfl ?_
  refine g_isub X dL_made_95 rfl ?_
  refine g_icmp_ne X dL_made_96 113 (by decide) rfl (fun h96 => absurd rfl h96) (fun h96 => ?_)
  refine g_aload_n X dL_made_99 rfl 0 rfl rfl ?_
  refine g_iload_n X dL_made_100 rfl 1 rfl rfl ?_
  refine g_bipush (v := (9 : Int32)) X dL_made_101 (by decide) rfl ?_
  refine g_callVRX (w0 := []) (n := 2) (As := [_, _]) (rest := []) X (c_X6_ofStamp l D a f na w td vl L pt fl kd kp fq fs tl mk n b hW hNR _ _) gL_made_X6_ofStamp rfl (by decide +kernel) ⟨Nat.le_of_ble_eq_true rfl, Nat.le_of_ble_eq_true rfl⟩ 20 rfl rfl rfl rfl rfl (Nat.le_of_ble_eq_true rfl) dL_made_103 ⟨Nat.le_of_ble_eq_true rfl, Nat.le_of_ble_eq_true rfl⟩ rfl (fun v hv => ?_)
  obtain rfl := hv
  refine g_st (st' := [_]) rfl ?_
  refine g_topi (oSt9 (q := q) eN1 (by omega) hm40) ?_
  refine g_topi ((show nI (bhN f q mk) = 0 from by unfold bhN; rw [cnI_0 (fun k hk => by rw [decide_eq_false (by omega), Bool.false_and])]; rfl)) ?_
  refine g_if_ne X dL_made_106 113 (by decide) rfl (fun h106 => absurd h106 (by decide)) (fun h106 => ?_)
  refine g_iconst (v := (1 : Int32)) X dL_made_109 (by decide) rfl ?_
  refine g_goto X dL_made_110 114 (by decide) ?_
  refine g_retR X hr (by first | rfl | exact b2i_nar _) dL_made_114 ?_
  rfl

set_option maxHeartbeats 4000000 in
set_option maxRecDepth 100000 in
theorem c_L_print (l : Launch) (D : DT) (a : Nat → Nat) (f : Nat → Int32) (na : Nat → Nat → Int32) (w td vl : Nat → Int32) (L pt fl : Nat) (kd : Int32) (kp : Nat) (fq fs : Nat → Option Nat) (tl : va_W) (mk n b : Nat) (hW : WF f mk n b) (hNR : NR f na n) : MR l yL_print wsL_print 4 95 D [.ref (a 19)] (wB D a f na w td vl L pt fl kd kp fq fs tl) (fun v => v = some (.long (prS f))) := by
  obtain ⟨hmk, hm40, hn8, hb0, hb01, hb08, hn8b, hst, hno, how, hdo, hb0a, hb0c, hb0d, hb0z⟩ := id hW
  have hm8 : n ≤ 8 := by omega
  obtain ⟨eN1, eN2, -⟩ := hW.N
  refine MR.of (cc := cL_print) (maxL := 5) (ret := (some .long)) (lv := [(0, .ref (a 19))]) (by decide +kernel) rfl (Nat.le_of_ble_eq_true rfl) rfl ?_
  intro p e s m below meth c A X hr hmn
  refine g_ldc2 X dL_print_0 (List.mem_of_getElem? (l := wsL_print) (i := 1) rfl) rfl ?_
  refine g_lstore_n X [(1, _), (0, _)] dL_print_3 rfl (by decide) rfl rfl ?_
  refine g_iconst (v := (0 : Int32)) X dL_print_4 (by decide) rfl ?_
  refine g_istore_n X [(3, _), (1, _), (0, _)] dL_print_5 rfl (by decide) rfl rfl ?_
  have L6 : ∀ (j i : Nat) (hi : i ≤ 12) (hj : 12 - i = j), GG p l e (wRoom 4 95 0 0) s m ([.ref (a 19)] : List Value).toArray below meth c D A 5 true 0 0 (MQ below (roQ (fun v => v = some (.long (prS f)))) ([.ref (a 19)] : List Value).toArray s 0 0 (fun _ => False)) (wB D a f na w td vl L pt fl kd kp fq fs tl) 6 [(3, .int (nI i)), (1, .long (fldH (fun p => f (4 + p)) 7 i)), (0, .ref (a 19))] [] := by
    intro j
    induction j using Nat.strongRecOn with
    | _ j ih =>
    intro i hi hj
    refine g_iload_n X dL_print_6 rfl 0 rfl rfl ?_
    refine g_bipush (v := (12 : Int32)) X dL_print_7 (by decide) rfl ?_
    refine g_icmp_ge X dL_print_9 32 (by decide) rfl (fun h9 => ?_) (fun h9 => ?_)
    · have i9 := nj_le (a := 12) (b := i) (by omega) (by omega) h9
      obtain rfl : i = 12 := by omega
      refine g_iconst (v := (0 : Int32)) X dL_print_32 (by decide) rfl ?_
      refine g_istore_n X [(3, _), (1, _), (0, _)] dL_print_33 rfl (by decide) rfl rfl ?_
      have L34 : ∀ (j i : Nat) (hi : i ≤ mk) (hj : mk - i = j), GG p l e (wRoom 4 95 0 0) s m ([.ref (a 19)] : List Value).toArray below meth c D A 5 true 0 0 (MQ below (roQ (fun v => v = some (.long (prS f)))) ([.ref (a 19)] : List Value).toArray s 0 0 (fun _ => False)) (wB D a f na w td vl L pt fl kd kp fq fs tl) 34 [(3, .int (nI i)), (1, .long (fldG (ofM f) 7 (fldH (fun p => f (4 + p)) 7 12) i)), (0, .ref (a 19))] [] := by
        intro j
        induction j using Nat.strongRecOn with
        | _ j ih =>
        intro i hi hj
        refine g_iload_n X dL_print_34 rfl 0 rfl rfl ?_
        refine g_aload_n X dL_print_35 rfl 2 rfl rfl ?_
        refine g_iconst (v := (0 : Int32)) X dL_print_36 (by decide) rfl ?_
        refine g_callVRX (w0 := []) (n := 1) (As := [_]) (rest := [_]) X (c_X6_count l D a f na w td vl L pt fl kd kp fq fs tl mk n b hW hNR _) gL_print_X6_count rfl (by decide +kernel) ⟨Nat.le_of_ble_eq_true rfl, Nat.le_of_ble_eq_true rfl⟩ 20 rfl rfl rfl rfl rfl (Nat.le_of_ble_eq_true rfl) dL_print_37 ⟨Nat.le_of_ble_eq_true rfl, Nat.le_of_ble_eq_true rfl⟩ rfl (fun v hv => ?_)
        obtain rfl := hv
        refine g_st (st' := [_, _]) rfl ?_
        refine g_topi (oC0.trans hmk) ?_
        refine g_icmp_ge X dL_print_40 80 (by decide) rfl (fun h40 => ?_) (fun h40 => ?_)
        · have i40 := nj_le (a := mk) (b := i) (by omega) (by omega) h40
          rw [show i = mk from by omega]
          refine g_iconst (v := (0 : Int32)) X dL_print_80 (by decide) rfl ?_
          refine g_istore_n X [(3, _), (1, _), (0, _)] dL_print_81 rfl (by decide) rfl rfl ?_
          have L82 : ∀ (j i : Nat) (hi : i ≤ 6) (hj : 6 - i = j), GG p l e (wRoom 4 95 0 0) s m ([.ref (a 19)] : List Value).toArray below meth c D A 5 true 0 0 (MQ below (roQ (fun v => v = some (.long (prS f)))) ([.ref (a 19)] : List Value).toArray s 0 0 (fun _ => False)) (wB D a f na w td vl L pt fl kd kp fq fs tl) 82 [(3, .int (nI i)), (1, .long (fldG (ledM f) 10 (fldG (ofM f) 7 (fldH (fun p => f (4 + p)) 7 12) mk) i)), (0, .ref (a 19))] [] := by
            intro j
            induction j using Nat.strongRecOn with
            | _ j ih =>
            intro i hi hj
            refine g_iload_n X dL_print_82 rfl 0 rfl rfl ?_
            refine g_bipush (v := (6 : Int32)) X dL_print_83 (by decide) rfl ?_
            refine g_icmp_ge X dL_print_85 125 (by decide) rfl (fun h85 => ?_) (fun h85 => ?_)
            · have i85 := nj_le (a := 6) (b := i) (by omega) (by omega) h85
              obtain rfl : i = 6 := by omega
              refine g_iconst (v := (0 : Int32)) X dL_print_125 (by decide) rfl ?_
              refine g_istore_n X [(3, _), (1, _), (0, _)] dL_print_126 rfl (by decide) rfl rfl ?_
              have L127 : ∀ (j i : Nat) (hi : i ≤ n) (hj : n - i = j), GG p l e (wRoom 4 95 0 0) s m ([.ref (a 19)] : List Value).toArray below meth c D A 5 true 0 0 (MQ below (roQ (fun v => v = some (.long (prS f)))) ([.ref (a 19)] : List Value).toArray s 0 0 (fun _ => False)) (wB D a f na w td vl L pt fl kd kp fq fs tl) 127 [(3, .int (nI i)), (1, .long (fldG (noteM f) 4 (fldG (ledM f) 10 (fldG (ofM f) 7 (fldH (fun p => f (4 + p)) 7 12) mk) 6) i)), (0, .ref (a 19))] [] := by
                intro j
                induction j using Nat.strongRecOn with
                | _ j ih =>
                intro i hi hj
                refine g_iload_n X dL_print_127 rfl 0 rfl rfl ?_
                refine g_aload_n X dL_print_128 rfl 2 rfl rfl ?_
                refine g_iconst (v := (2 : Int32)) X dL_print_129 (by decide) rfl ?_
                refine g_callVRX (w0 := []) (n := 1) (As := [_]) (rest := [_]) X (c_X6_count l D a f na w td vl L pt fl kd kp fq fs tl mk n b hW hNR _) gL_print_X6_count rfl (by decide +kernel) ⟨Nat.le_of_ble_eq_true rfl, Nat.le_of_ble_eq_true rfl⟩ 20 rfl rfl rfl rfl rfl (Nat.le_of_ble_eq_true rfl) dL_print_130 ⟨Nat.le_of_ble_eq_true rfl, Nat.le_of_ble_eq_true rfl⟩ rfl (fun v hv => ?_)
                obtain rfl := hv
                refine g_st (st' := [_, _]) rfl ?_
                refine g_topi (oC2.trans hn8) ?_
                refine g_icmp_ge X dL_print_133 172 (by decide) rfl (fun h133 => ?_) (fun h133 => ?_)
                · have i133 := nj_le (a := n) (b := i) (by omega) (by omega) h133
                  rw [show i = n from by omega]
                  refine g_iconst (v := (0 : Int32)) X dL_print_172 (by decide) rfl ?_
                  refine g_istore_n X [(3, _), (1, _), (0, _)] dL_print_173 rfl (by decide) rfl rfl ?_
                  have L174 : ∀ (j i : Nat) (hi : i ≤ 13) (hj : 13 - i = j), GG p l e (wRoom 4 95 0 0) s m ([.ref (a 19)] : List Value).toArray below meth c D A 5 true 0 0 (MQ below (roQ (fun v => v = some (.long (prS f)))) ([.ref (a 19)] : List Value).toArray s 0 0 (fun _ => False)) (wB D a f na w td vl L pt fl kd kp fq fs tl) 174 [(3, .int (nI i)), (1, .long (fldH (cntF f) (fldG (noteM f) 4 (fldG (ledM f) 10 (fldG (ofM f) 7 (fldH (fun p => f (4 + p)) 7 12) mk) 6) n) i)), (0, .ref (a 19))] [] := by
                    intro j
                    induction j using Nat.strongRecOn with
                    | _ j ih =>
                    intro i hi hj
                    refine g_iload_n X dL_print_174 rfl 0 rfl rfl ?_
                    refine g_bipush (v := (13 : Int32)) X dL_print_175 (by decide) rfl ?_
                    refine g_icmp_ge X dL_print_177 199 (by decide) rfl (fun h177 => ?_) (fun h177 => ?_)
                    · have i177 := nj_le (a := 13) (b := i) (by omega) (by omega) h177
                      obtain rfl : i = 13 := by omega
                      refine g_iconst (v := (0 : Int32)) X dL_print_199 (by decide) rfl ?_
                      refine g_istore_n X [(3, _), (1, _), (0, _)] dL_print_200 rfl (by decide) rfl rfl ?_
                      have L201 : ∀ (j i : Nat) (hi : i ≤ 7) (hj : 7 - i = j), GG p l e (wRoom 4 95 0 0) s m ([.ref (a 19)] : List Value).toArray below meth c D A 5 true 0 0 (MQ below (roQ (fun v => v = some (.long (prS f)))) ([.ref (a 19)] : List Value).toArray s 0 0 (fun _ => False)) (wB D a f na w td vl L pt fl kd kp fq fs tl) 201 [(3, .int (nI i)), (1, .long (fldH (fun r => f (83 + r)) (fldH (cntF f) (fldG (noteM f) 4 (fldG (ledM f) 10 (fldG (ofM f) 7 (fldH (fun p => f (4 + p)) 7 12) mk) 6) n) 13) i)), (0, .ref (a 19))] [] := by
                        intro j
                        induction j using Nat.strongRecOn with
                        | _ j ih =>
                        intro i hi hj
                        refine g_iload_n X dL_print_201 rfl 0 rfl rfl ?_
                        refine g_bipush (v := (7 : Int32)) X dL_print_202 (by decide) rfl ?_
                        refine g_icmp_ge X dL_print_204 226 (by decide) rfl (fun h204 => ?_) (fun h204 => ?_)
                        · have i204 := nj_le (a := 7) (b := i) (by omega) (by omega) h204
                          obtain rfl : i = 7 := by omega
                          refine g_lload_n X dL_print_226 rfl 1 rfl rfl ?_
                          refine g_lretR X hr dL_print_227 ?_
                          exact congrArg (fun x => some (Value.long x)) (by unfold prS prX; rw [eN1, eN2])
                        · have i204 := nj_nle (a := 7) (b := i) (by omega) (by omega) h204
                          refine g_ldc2 X dL_print_207 (List.mem_of_getElem? (l := wsL_print) (i := 2) rfl) rfl ?_
                          refine g_lload_n X dL_print_210 rfl 1 rfl rfl ?_
                          refine g_lmul X dL_print_211 rfl ?_
                          refine g_aload_n X dL_print_212 rfl 2 rfl rfl ?_
                          refine g_iload_n X dL_print_213 rfl 0 rfl rfl ?_
                          refine g_callVRX (w0 := []) (n := 1) (As := [_]) (rest := [_]) X (c_X6_ended l D a f na w td vl L pt fl kd kp fq fs tl mk n b hW hNR _) gL_print_X6_ended rfl (by decide +kernel) ⟨Nat.le_of_ble_eq_true rfl, Nat.le_of_ble_eq_true rfl⟩ 20 rfl rfl rfl rfl rfl (Nat.le_of_ble_eq_true rfl) dL_print_214 ⟨Nat.le_of_ble_eq_true rfl, Nat.le_of_ble_eq_true rfl⟩ rfl (fun v hv => ?_)
                          obtain rfl := hv
                          refine g_st (st' := [_, _]) rfl ?_
                          refine g_topi (oEn (r := i) (by omega)) ?_
                          refine g_i2l X dL_print_217 rfl rfl ?_
                          refine g_ladd X dL_print_218 rfl ?_
                          refine g_lstore_n X [(1, _), (3, _), (0, _)] dL_print_219 rfl (by decide) rfl rfl ?_
                          refine g_iinc (v := nI (i + 1)) X [(3, _), (1, _), (0, _)] dL_print_220 1 rfl (nI_add i 1) (by decide) rfl rfl ?_
                          refine g_goto X dL_print_223 201 (by decide) ?_
                          exact ih (7 - (i + 1)) (by omega) (i + 1) (by omega) rfl
                      exact L201 7 0 (by omega) rfl
                    · have i177 := nj_nle (a := 13) (b := i) (by omega) (by omega) h177
                      refine g_ldc2 X dL_print_180 (List.mem_of_getElem? (l := wsL_print) (i := 2) rfl) rfl ?_
                      refine g_lload_n X dL_print_183 rfl 1 rfl rfl ?_
                      refine g_lmul X dL_print_184 rfl ?_
                      refine g_aload_n X dL_print_185 rfl 2 rfl rfl ?_
                      refine g_iload_n X dL_print_186 rfl 0 rfl rfl ?_
                      refine g_callVRX (w0 := []) (n := 1) (As := [_]) (rest := [_]) X (c_X6_count l D a f na w td vl L pt fl kd kp fq fs tl mk n b hW hNR _) gL_print_X6_count rfl (by decide +kernel) ⟨Nat.le_of_ble_eq_true rfl, Nat.le_of_ble_eq_true rfl⟩ 20 rfl rfl rfl rfl rfl (Nat.le_of_ble_eq_true rfl) dL_print_187 ⟨Nat.le_of_ble_eq_true rfl, Nat.le_of_ble_eq_true rfl⟩ rfl (fun v hv => ?_)
                      obtain rfl := hv
                      refine g_st (st' := [_, _]) rfl ?_
                      refine g_topi (cnt_lt (by omega)) ?_
                      refine g_i2l X dL_print_190 rfl rfl ?_
                      refine g_ladd X dL_print_191 rfl ?_
                      refine g_lstore_n X [(1, _), (3, _), (0, _)] dL_print_192 rfl (by decide) rfl rfl ?_
                      refine g_iinc (v := nI (i + 1)) X [(3, _), (1, _), (0, _)] dL_print_193 1 rfl (nI_add i 1) (by decide) rfl rfl ?_
                      refine g_goto X dL_print_196 174 (by decide) ?_
                      exact ih (13 - (i + 1)) (by omega) (i + 1) (by omega) rfl
                  exact L174 13 0 (by omega) rfl
                · have i133 := nj_nle (a := n) (b := i) (by omega) (by omega) h133
                  refine g_iconst (v := (0 : Int32)) X dL_print_136 (by decide) rfl ?_
                  refine g_istore X [(4, _), (3, _), (1, _), (0, _)] dL_print_137 (by decide) rfl rfl ?_
                  have L139 : ∀ (t k : Nat) (hk : k ≤ 4) (ht : 4 - k = t), GG p l e (wRoom 4 95 0 0) s m ([.ref (a 19)] : List Value).toArray below meth c D A 5 true 0 0 (MQ below (roQ (fun v => v = some (.long (prS f)))) ([.ref (a 19)] : List Value).toArray s 0 0 (fun _ => False)) (wB D a f na w td vl L pt fl kd kp fq fs tl) 139 [(4, .int (nI k)), (1, .long (fldH ((noteM f) i) (fldG (noteM f) 4 (fldG (ledM f) 10 (fldG (ofM f) 7 (fldH (fun p => f (4 + p)) 7 12) mk) 6) i) k)), (3, .int (nI i)), (0, .ref (a 19))] [] := by
                    intro t
                    induction t using Nat.strongRecOn with
                    | _ t iht =>
                    intro k hk ht
                    refine g_iload X dL_print_139 0 rfl rfl ?_
                    refine g_iconst (v := (4 : Int32)) X dL_print_141 (by decide) rfl ?_
                    refine g_icmp_ge X dL_print_142 166 (by decide) rfl (fun h142 => ?_) (fun h142 => ?_)
                    · have i142 := nj_le (a := 4) (b := k) (by omega) (by omega) h142
                      obtain rfl : k = 4 := by omega
                      refine g_iinc (v := nI (i + 1)) X [(3, _), (4, _), (1, _), (0, _)] dL_print_166 2 rfl (nI_add i 1) (by decide) rfl rfl ?_
                      refine g_goto X dL_print_169 127 (by decide) ?_
                      refine g_lv [0, 2, 3] [(3, _), (1, _), (0, _)] rfl ?_
                      exact ih (n - (i + 1)) (by omega) (i + 1) (by omega) rfl
                    · have i142 := nj_nle (a := 4) (b := k) (by omega) (by omega) h142
                      refine g_ldc2 X dL_print_145 (List.mem_of_getElem? (l := wsL_print) (i := 2) rfl) rfl ?_
                      refine g_lload_n X dL_print_148 rfl 1 rfl rfl ?_
                      refine g_lmul X dL_print_149 rfl ?_
                      refine g_aload_n X dL_print_150 rfl 3 rfl rfl ?_
                      refine g_iload_n X dL_print_151 rfl 2 rfl rfl ?_
                      refine g_iload X dL_print_152 0 rfl rfl ?_
                      refine g_callVRX (w0 := []) (n := 2) (As := [_, _]) (rest := [_]) X (c_X6_note l D a f na w td vl L pt fl kd kp fq fs tl mk n b hW hNR _ _) gL_print_X6_note rfl (by decide +kernel) ⟨Nat.le_of_ble_eq_true rfl, Nat.le_of_ble_eq_true rfl⟩ 20 rfl rfl rfl rfl rfl (Nat.le_of_ble_eq_true rfl) dL_print_154 ⟨Nat.le_of_ble_eq_true rfl, Nat.le_of_ble_eq_true rfl⟩ rfl (fun v hv => ?_)
                      obtain rfl := hv
                      refine g_st (st' := [_, _]) rfl ?_
                      refine g_topi (oNt k eN2 (by omega) hm8 rfl (by omega)) ?_
                      refine g_i2l X dL_print_157 rfl rfl ?_
                      refine g_ladd X dL_print_158 rfl ?_
                      refine g_lstore_n X [(1, _), (4, _), (3, _), (0, _)] dL_print_159 rfl (by decide) rfl rfl ?_
                      refine g_iinc (v := nI (k + 1)) X [(4, _), (1, _), (3, _), (0, _)] dL_print_160 1 rfl (nI_add k 1) (by decide) rfl rfl ?_
                      refine g_goto X dL_print_163 139 (by decide) ?_
                      exact iht (4 - (k + 1)) (by omega) (k + 1) (by omega) rfl
                  refine g_lv [0, 2, 1, 3] [(4, _), (1, _), (3, _), (0, _)] rfl ?_
                  exact L139 4 0 (by omega) rfl
              exact L127 n 0 (by omega) rfl
            · have i85 := nj_nle (a := 6) (b := i) (by omega) (by omega) h85
              refine g_iconst (v := (0 : Int32)) X dL_print_88 (by decide) rfl ?_
              refine g_istore X [(4, _), (3, _), (1, _), (0, _)] dL_print_89 (by decide) rfl rfl ?_
              have L91 : ∀ (t k : Nat) (hk : k ≤ 10) (ht : 10 - k = t), GG p l e (wRoom 4 95 0 0) s m ([.ref (a 19)] : List Value).toArray below meth c D A 5 true 0 0 (MQ below (roQ (fun v => v = some (.long (prS f)))) ([.ref (a 19)] : List Value).toArray s 0 0 (fun _ => False)) (wB D a f na w td vl L pt fl kd kp fq fs tl) 91 [(4, .int (nI k)), (1, .long (fldH ((ledM f) i) (fldG (ledM f) 10 (fldG (ofM f) 7 (fldH (fun p => f (4 + p)) 7 12) mk) i) k)), (3, .int (nI i)), (0, .ref (a 19))] [] := by
                intro t
                induction t using Nat.strongRecOn with
                | _ t iht =>
                intro k hk ht
                refine g_iload X dL_print_91 0 rfl rfl ?_
                refine g_bipush (v := (10 : Int32)) X dL_print_93 (by decide) rfl ?_
                refine g_icmp_ge X dL_print_95 119 (by decide) rfl (fun h95 => ?_) (fun h95 => ?_)
                · have i95 := nj_le (a := 10) (b := k) (by omega) (by omega) h95
                  obtain rfl : k = 10 := by omega
                  refine g_iinc (v := nI (i + 1)) X [(3, _), (4, _), (1, _), (0, _)] dL_print_119 2 rfl (nI_add i 1) (by decide) rfl rfl ?_
                  refine g_goto X dL_print_122 82 (by decide) ?_
                  refine g_lv [0, 2, 3] [(3, _), (1, _), (0, _)] rfl ?_
                  exact ih (6 - (i + 1)) (by omega) (i + 1) (by omega) rfl
                · have i95 := nj_nle (a := 10) (b := k) (by omega) (by omega) h95
                  refine g_ldc2 X dL_print_98 (List.mem_of_getElem? (l := wsL_print) (i := 2) rfl) rfl ?_
                  refine g_lload_n X dL_print_101 rfl 1 rfl rfl ?_
                  refine g_lmul X dL_print_102 rfl ?_
                  refine g_aload_n X dL_print_103 rfl 3 rfl rfl ?_
                  refine g_iload_n X dL_print_104 rfl 2 rfl rfl ?_
                  refine g_iload X dL_print_105 0 rfl rfl ?_
                  refine g_callVRX (w0 := []) (n := 2) (As := [_, _]) (rest := [_]) X (c_X6_leads l D a f na w td vl L pt fl kd kp fq fs tl mk n b hW hNR _ _) gL_print_X6_leads rfl (by decide +kernel) ⟨Nat.le_of_ble_eq_true rfl, Nat.le_of_ble_eq_true rfl⟩ 20 rfl rfl rfl rfl rfl (Nat.le_of_ble_eq_true rfl) dL_print_107 ⟨Nat.le_of_ble_eq_true rfl, Nat.le_of_ble_eq_true rfl⟩ rfl (fun v hv => ?_)
                  obtain rfl := hv
                  refine g_st (st' := [_, _]) rfl ?_
                  refine g_topi (oLd (g := i) (d := k) (by omega) (by omega)) ?_
                  refine g_i2l X dL_print_110 rfl rfl ?_
                  refine g_ladd X dL_print_111 rfl ?_
                  refine g_lstore_n X [(1, _), (4, _), (3, _), (0, _)] dL_print_112 rfl (by decide) rfl rfl ?_
                  refine g_iinc (v := nI (k + 1)) X [(4, _), (1, _), (3, _), (0, _)] dL_print_113 1 rfl (nI_add k 1) (by decide) rfl rfl ?_
                  refine g_goto X dL_print_116 91 (by decide) ?_
                  exact iht (10 - (k + 1)) (by omega) (k + 1) (by omega) rfl
              refine g_lv [0, 2, 1, 3] [(4, _), (1, _), (3, _), (0, _)] rfl ?_
              exact L91 10 0 (by omega) rfl
          exact L82 6 0 (by omega) rfl
        · have i40 := nj_nle (a := mk) (b := i) (by omega) (by omega) h40
          refine g_iconst (v := (0 : Int32)) X dL_print_43 (by decide) rfl ?_
          refine g_istore X [(4, _), (3, _), (1, _), (0, _)] dL_print_44 (by decide) rfl rfl ?_
          have L46 : ∀ (t k : Nat) (hk : k ≤ 7) (ht : 7 - k = t), GG p l e (wRoom 4 95 0 0) s m ([.ref (a 19)] : List Value).toArray below meth c D A 5 true 0 0 (MQ below (roQ (fun v => v = some (.long (prS f)))) ([.ref (a 19)] : List Value).toArray s 0 0 (fun _ => False)) (wB D a f na w td vl L pt fl kd kp fq fs tl) 46 [(4, .int (nI k)), (1, .long (fldH ((ofM f) i) (fldG (ofM f) 7 (fldH (fun p => f (4 + p)) 7 12) i) k)), (3, .int (nI i)), (0, .ref (a 19))] [] := by
            intro t
            induction t using Nat.strongRecOn with
            | _ t iht =>
            intro k hk ht
            refine g_iload X dL_print_46 0 rfl rfl ?_
            refine g_bipush (v := (7 : Int32)) X dL_print_48 (by decide) rfl ?_
            refine g_icmp_ge X dL_print_50 74 (by decide) rfl (fun h50 => ?_) (fun h50 => ?_)
            · have i50 := nj_le (a := 7) (b := k) (by omega) (by omega) h50
              obtain rfl : k = 7 := by omega
              refine g_iinc (v := nI (i + 1)) X [(3, _), (4, _), (1, _), (0, _)] dL_print_74 2 rfl (nI_add i 1) (by decide) rfl rfl ?_
              refine g_goto X dL_print_77 34 (by decide) ?_
              refine g_lv [0, 2, 3] [(3, _), (1, _), (0, _)] rfl ?_
              exact ih (mk - (i + 1)) (by omega) (i + 1) (by omega) rfl
            · have i50 := nj_nle (a := 7) (b := k) (by omega) (by omega) h50
              refine g_ldc2 X dL_print_53 (List.mem_of_getElem? (l := wsL_print) (i := 2) rfl) rfl ?_
              refine g_lload_n X dL_print_56 rfl 1 rfl rfl ?_
              refine g_lmul X dL_print_57 rfl ?_
              refine g_aload_n X dL_print_58 rfl 3 rfl rfl ?_
              refine g_iload_n X dL_print_59 rfl 2 rfl rfl ?_
              refine g_iload X dL_print_60 0 rfl rfl ?_
              refine g_callVRX (w0 := []) (n := 2) (As := [_, _]) (rest := [_]) X (c_X6_ofStamp l D a f na w td vl L pt fl kd kp fq fs tl mk n b hW hNR _ _) gL_print_X6_ofStamp rfl (by decide +kernel) ⟨Nat.le_of_ble_eq_true rfl, Nat.le_of_ble_eq_true rfl⟩ 20 rfl rfl rfl rfl rfl (Nat.le_of_ble_eq_true rfl) dL_print_62 ⟨Nat.le_of_ble_eq_true rfl, Nat.le_of_ble_eq_true rfl⟩ rfl (fun v hv => ?_)
              obtain rfl := hv
              refine g_st (st' := [_, _]) rfl ?_
              refine g_topi (oSt k eN1 (by omega) hm40 rfl (by omega)) ?_
              refine g_i2l X dL_print_65 rfl rfl ?_
              refine g_ladd X dL_print_66 rfl ?_
              refine g_lstore_n X [(1, _), (4, _), (3, _), (0, _)] dL_print_67 rfl (by decide) rfl rfl ?_
              refine g_iinc (v := nI (k + 1)) X [(4, _), (1, _), (3, _), (0, _)] dL_print_68 1 rfl (nI_add k 1) (by decide) rfl rfl ?_
              refine g_goto X dL_print_71 46 (by decide) ?_
              exact iht (7 - (k + 1)) (by omega) (k + 1) (by omega) rfl
          refine g_lv [0, 2, 1, 3] [(4, _), (1, _), (3, _), (0, _)] rfl ?_
          exact L46 7 0 (by omega) rfl
      exact L34 mk 0 (by omega) rfl
    · have i9 := nj_nle (a := 12) (b := i) (by omega) (by omega) h9
      refine g_ldc2 X dL_print_12 (List.mem_of_getElem? (l := wsL_print) (i := 2) rfl) rfl ?_
      refine g_lload_n X dL_print_15 rfl 1 rfl rfl ?_
      refine g_lmul X dL_print_16 rfl ?_
      refine g_aload_n X dL_print_17 rfl 2 rfl rfl ?_
      refine g_iload_n X dL_print_18 rfl 0 rfl rfl ?_
      refine g_iconst (v := (0 : Int32)) X dL_print_19 (by decide) rfl ?_
      refine g_callVRX (w0 := []) (n := 2) (As := [_, _]) (rest := [_]) X (c_X6_ofPage l D a f na w td vl L pt fl kd kp fq fs tl mk n b hW hNR _ _) gL_print_X6_ofPage rfl (by decide +kernel) ⟨Nat.le_of_ble_eq_true rfl, Nat.le_of_ble_eq_true rfl⟩ 20 rfl rfl rfl rfl rfl (Nat.le_of_ble_eq_true rfl) dL_print_20 ⟨Nat.le_of_ble_eq_true rfl, Nat.le_of_ble_eq_true rfl⟩ rfl (fun v hv => ?_)
      obtain rfl := hv
      refine g_st (st' := [_, _]) rfl ?_
      refine g_topi (oPg0 (p := i) (by omega)) ?_
      refine g_i2l X dL_print_23 rfl rfl ?_
      refine g_ladd X dL_print_24 rfl ?_
      refine g_lstore_n X [(1, _), (3, _), (0, _)] dL_print_25 rfl (by decide) rfl rfl ?_
      refine g_iinc (v := nI (i + 1)) X [(3, _), (1, _), (0, _)] dL_print_26 1 rfl (nI_add i 1) (by decide) rfl rfl ?_
      refine g_goto X dL_print_29 6 (by decide) ?_
      exact ih (12 - (i + 1)) (by omega) (i + 1) (by omega) rfl
  exact L6 12 0 (by omega) rfl
