set_option maxHeartbeats 4000000 in
set_option maxRecDepth 100000 in
theorem c_X6_ofStamp (l : Launch) (D : DT) (a : Nat → Nat) (f : Nat → Int32) (na : Nat → Nat → Int32) (w td vl : Nat → Int32) (L pt fl : Nat) (kd : Int32) (kp : Nat) (fq fs : Nat → Option Nat) (tl : va_W) (mk n b : Nat) (hW : WF f mk n b) (hNR : NR f na n) (x wh : Int32) : MR l yX6_ofStamp wsX6_ofStamp 3 72 D [.ref (a 19), .int x, .int wh] (wB D a f na w td vl L pt fl kd kp fq fs tl) (fun v => v = some (.int (ofStampS f x wh))) := by
  obtain ⟨hmk, h40, hn8, hb0, hb1, hb8, hnb, hst, hno, how, hdo, hs1, hs2, hs3, hZF⟩ := id hW
  have h8 : n ≤ 8 := by omega
  obtain ⟨eN1, eN2, eN3⟩ := hW.N
  refine MR.of (cc := cX6_ofStamp) (maxL := 4) (ret := (some .int)) (lv := [(0, .ref (a 19)), (1, .int x), (2, .int wh)]) (by decide +kernel) rfl (Nat.le_of_ble_eq_true rfl) rfl ?_
  intro p e s m below meth c A X hr hmn
  have hinX60 : ∀ w ∈ wsX60, w ∈ wsX6_ofStamp := fun w h => List.mem_cons_of_mem _ (List.mem_append_left _ (List.mem_append_left _ (List.mem_append_right _ h)))
  have hinX20 : ∀ w ∈ wsX20, w ∈ wsX6_ofStamp := fun w h => List.mem_cons_of_mem _ (List.mem_append_left _ (List.mem_append_right _ h))
  have hinX40 : ∀ w ∈ wsX40, w ∈ wsX6_ofStamp := fun w h => List.mem_cons_of_mem _ (List.mem_append_right _ h)
  have hl12 := List.mem_of_getElem? (l := wsX6_ofStamp) (i := 1) rfl
  have hl107 := List.mem_of_getElem? (l := wsX6_ofStamp) (i := 2) rfl
  have hl125 := List.mem_of_getElem? (l := wsX6_ofStamp) (i := 3) rfl
  have hl128 := List.mem_of_getElem? (l := wsX6_ofStamp) (i := 4) rfl
  have hl131 := List.mem_of_getElem? (l := wsX6_ofStamp) (i := 5) rfl
  have hl134 := List.mem_of_getElem? (l := wsX6_ofStamp) (i := 6) rfl
  have hl137 := List.mem_of_getElem? (l := wsX6_ofStamp) (i := 7) rfl
  have hl140 := List.mem_of_getElem? (l := wsX6_ofStamp) (i := 8) rfl
  have hl148 := List.mem_of_getElem? (l := wsX6_ofStamp) (i := 9) rfl
  refine g_aload_n X dX6_ofStamp_0 rfl 0 rfl rfl ?_
  refine gB_get_VisaPages_house X dX6_ofStamp_1 hinX60 hl12 rfl ?_
  refine gB_get_House_stamps X dX6_ofStamp_4 hinX20 hl107 rfl ?_
  refine g_astore_n X [(3, _), (0, _), (1, _), (2, _)] dX6_ofStamp_7 rfl (by decide) rfl rfl ?_
  refine g_aload_n X dX6_ofStamp_8 rfl 0 rfl rfl ?_
  refine g_iload_n X dX6_ofStamp_9 rfl 2 rfl rfl ?_
  refine g_callVRq (n := 1) (As := [_]) (rest := []) X (c_X4_has l D _ _ _ _ mk hmk h40 _) gX6_ofStamp_X4_has rfl (by decide +kernel) ⟨Nat.le_of_ble_eq_true rfl, Nat.le_of_ble_eq_true rfl⟩ 5 rfl rfl [0, 1, 2, 3, 4, 5, 6, 7, 8, 9, 10, 11, 12, 13, 14, 15, 16] rfl (by decide) rfl rfl (Nat.le_of_ble_eq_true rfl) dX6_ofStamp_10 ⟨Nat.le_of_ble_eq_true rfl, Nat.le_of_ble_eq_true rfl⟩ rfl (fun v hv => ?_)
  obtain rfl := hv
  refine g_st (st' := [_]) rfl ?_
  refine g_if_ne X dX6_ofStamp_13 18 (by decide) rfl (fun h13 => ?_) (fun h13 => ?_)
  · replace h13 := b2i_n0 h13
    obtain ⟨q, hq, rfl⟩ := rng_nI h13
    obtain ⟨-, -, -, -, -, ⟨b5, e5⟩, ⟨b6, e6⟩⟩ := id (hst q hq)
    refine g_iload_n X dX6_ofStamp_18 rfl 3 rfl rfl ?_
    refine g_table X dX6_ofStamp_19 (fun v : Int => if v = 0 then 72 else if v = 1 then 79 else if v = 2 then 86 else if v = 3 then 93 else if v = 4 then 100 else if v = 5 then 107 else if v = 6 then 124 else if v = 7 then 141 else if v = 8 then 163 else if v = 9 then 169 else 175) (by
        intro v h1 h2
        have hv : v = 0 ∨ v = 1 ∨ v = 2 ∨ v = 3 ∨ v = 4 ∨ v = 5 ∨ v = 6 ∨ v = 7 ∨ v = 8 ∨ v = 9 := by omega
        rcases hv with rfl | rfl | rfl | rfl | rfl | rfl | rfl | rfl | rfl | rfl
        all_goals exact ⟨_, rfl, by decide⟩) 175 (by decide) (fun hl hh => ?_) (fun hd => ?_)
    · have hc : (wh).toInt = 0 ∨ (wh).toInt = 1 ∨ (wh).toInt = 2 ∨ (wh).toInt = 3 ∨ (wh).toInt = 4 ∨ (wh).toInt = 5 ∨ (wh).toInt = 6 ∨ (wh).toInt = 7 ∨ (wh).toInt = 8 ∨ (wh).toInt = 9 := by omega
      rcases hc with hc | hc | hc | hc | hc | hc | hc | hc | hc | hc
      · have ec19 : wh = (0 : Int32) := Int32.toInt_inj.mp hc
        refine g_pc 72 (by rw [hc]; rfl) ?_
        refine g_aload_n X dX6_ofStamp_72 rfl 0 rfl rfl ?_
        refine gB_get_Stamps_page X dX6_ofStamp_73 hinX40 hl125 rfl ?_
        refine g_iload_n X dX6_ofStamp_76 rfl 2 rfl rfl ?_
        refine gB_ld_St_page X dX6_ofStamp_77 (by first | rfl | assumption) (by omega) rfl ?_
        refine g_retR X hr (by first | rfl | exact b2i_nar _) dX6_ofStamp_78 ?_
        exact congrArg (fun x => some (Value.int x)) (by unfold ofStampS; rw [eN1, if_pos h13, ec19, if_pos (by decide), nI_clamp (by omega)]; rfl)
      · have ec19 : wh = (1 : Int32) := Int32.toInt_inj.mp hc
        refine g_pc 79 (by rw [hc]; rfl) ?_
        refine g_aload_n X dX6_ofStamp_79 rfl 0 rfl rfl ?_
        refine gB_get_Stamps_giver X dX6_ofStamp_80 hinX40 hl128 rfl ?_
        refine g_iload_n X dX6_ofStamp_83 rfl 2 rfl rfl ?_
        refine gB_ld_St_giver X dX6_ofStamp_84 (by first | rfl | assumption) (by omega) rfl ?_
        refine g_retR X hr (by first | rfl | exact b2i_nar _) dX6_ofStamp_85 ?_
        exact congrArg (fun x => some (Value.int x)) (by unfold ofStampS; rw [eN1, if_pos h13, ec19, if_pos (by decide), nI_clamp (by omega)]; rfl)
      · have ec19 : wh = (2 : Int32) := Int32.toInt_inj.mp hc
        refine g_pc 86 (by rw [hc]; rfl) ?_
        refine g_aload_n X dX6_ofStamp_86 rfl 0 rfl rfl ?_
        refine gB_get_Stamps_holder X dX6_ofStamp_87 hinX40 hl131 rfl ?_
        refine g_iload_n X dX6_ofStamp_90 rfl 2 rfl rfl ?_
        refine gB_ld_St_holder X dX6_ofStamp_91 (by first | rfl | assumption) (by omega) rfl ?_
        refine g_retR X hr (by first | rfl | exact b2i_nar _) dX6_ofStamp_92 ?_
        exact congrArg (fun x => some (Value.int x)) (by unfold ofStampS; rw [eN1, if_pos h13, ec19, if_pos (by decide), nI_clamp (by omega)]; rfl)
      · have ec19 : wh = (3 : Int32) := Int32.toInt_inj.mp hc
        refine g_pc 93 (by rw [hc]; rfl) ?_
        refine g_aload_n X dX6_ofStamp_93 rfl 0 rfl rfl ?_
        refine gB_get_Stamps_rights X dX6_ofStamp_94 hinX40 hl134 rfl ?_
        refine g_iload_n X dX6_ofStamp_97 rfl 2 rfl rfl ?_
        refine gB_ld_St_rights X dX6_ofStamp_98 (by first | rfl | assumption) (by omega) rfl ?_
        refine g_retR X hr (by first | rfl | exact b2i_nar _) dX6_ofStamp_99 ?_
        exact congrArg (fun x => some (Value.int x)) (by unfold ofStampS; rw [eN1, if_pos h13, ec19, if_pos (by decide), nI_clamp (by omega)]; rfl)
      · have ec19 : wh = (4 : Int32) := Int32.toInt_inj.mp hc
        refine g_pc 100 (by rw [hc]; rfl) ?_
        refine g_aload_n X dX6_ofStamp_100 rfl 0 rfl rfl ?_
        refine gB_get_Stamps_root X dX6_ofStamp_101 hinX40 hl137 rfl ?_
        refine g_iload_n X dX6_ofStamp_104 rfl 2 rfl rfl ?_
        refine gB_ld_St_root X dX6_ofStamp_105 (by first | rfl | assumption) (by omega) rfl ?_
        refine g_retR X hr (by first | rfl | exact b2i_nar _) dX6_ofStamp_106 ?_
        exact congrArg (fun x => some (Value.int x)) (by unfold ofStampS; rw [eN1, if_pos h13, ec19, if_pos (by decide), nI_clamp (by omega)]; rfl)
      · have ec19 : wh = (5 : Int32) := Int32.toInt_inj.mp hc
        refine g_pc 107 (by rw [hc]; rfl) ?_
        refine g_aload_n X dX6_ofStamp_107 rfl 0 rfl rfl ?_
        refine gB_get_Stamps_forged X dX6_ofStamp_108 hinX40 hl140 rfl ?_
        refine g_iload_n X dX6_ofStamp_111 rfl 2 rfl rfl ?_
        refine g_callSR (n := 2) (As := [_, _]) (rest := []) X (c_X6_isIn l D (mkB f 5) q (mkB_lt f 5) (by omega)) gX6_ofStamp_X6_isIn rfl (by decide +kernel) ⟨Nat.le_of_ble_eq_true rfl, Nat.le_of_ble_eq_true rfl⟩ [] rfl rfl rfl rfl (Nat.le_of_ble_eq_true rfl) dX6_ofStamp_112 ⟨Nat.le_of_ble_eq_true rfl, Nat.le_of_ble_eq_true rfl⟩ rfl (fun v hv => ?_)
        obtain rfl := hv
        refine g_st (st' := [_]) rfl ?_
        refine g_topi (congrArg b2i (mkB_b (j := 5) (by omega) e5)) ?_
        refine g_if_eq X dX6_ofStamp_115 122 (by decide) rfl (fun h115 => ?_) (fun h115 => ?_)
        · replace h115 := b2i_0 h115
          refine g_iconst (v := (0 : Int32)) X dX6_ofStamp_122 (by decide) rfl ?_
          refine g_retR X hr (by first | rfl | exact b2i_nar _) dX6_ofStamp_123 ?_
          have hT : ofStampS f (nI q) wh = b2i b5 := by
            unfold ofStampS
            rw [eN1, if_pos h13, ec19, if_pos (by decide), nI_clamp (by omega)]
            exact e5
          exact congrArg (fun x => some (Value.int x)) (by rw [hT, h115]; rfl)
        · replace h115 := b2i_n0 h115
          refine g_iconst (v := (1 : Int32)) X dX6_ofStamp_118 (by decide) rfl ?_
          refine g_goto X dX6_ofStamp_119 123 (by decide) ?_
          refine g_retR X hr (by first | rfl | exact b2i_nar _) dX6_ofStamp_123 ?_
          have hT : ofStampS f (nI q) wh = b2i b5 := by
            unfold ofStampS
            rw [eN1, if_pos h13, ec19, if_pos (by decide), nI_clamp (by omega)]
            exact e5
          exact congrArg (fun x => some (Value.int x)) (by rw [hT, h115]; rfl)
      · have ec19 : wh = (6 : Int32) := Int32.toInt_inj.mp hc
        refine g_pc 124 (by rw [hc]; rfl) ?_
        refine g_aload_n X dX6_ofStamp_124 rfl 0 rfl rfl ?_
        refine gB_get_Stamps_taken X dX6_ofStamp_125 hinX40 hl148 rfl ?_
        refine g_iload_n X dX6_ofStamp_128 rfl 2 rfl rfl ?_
        refine g_callSR (n := 2) (As := [_, _]) (rest := []) X (c_X6_isIn l D (mkB f 6) q (mkB_lt f 6) (by omega)) gX6_ofStamp_X6_isIn rfl (by decide +kernel) ⟨Nat.le_of_ble_eq_true rfl, Nat.le_of_ble_eq_true rfl⟩ [] rfl rfl rfl rfl (Nat.le_of_ble_eq_true rfl) dX6_ofStamp_129 ⟨Nat.le_of_ble_eq_true rfl, Nat.le_of_ble_eq_true rfl⟩ rfl (fun v hv => ?_)
        obtain rfl := hv
        refine g_st (st' := [_]) rfl ?_
        refine g_topi (congrArg b2i (mkB_b (j := 6) (by omega) e6)) ?_
        refine g_if_eq X dX6_ofStamp_132 139 (by decide) rfl (fun h132 => ?_) (fun h132 => ?_)
        · replace h132 := b2i_0 h132
          refine g_iconst (v := (0 : Int32)) X dX6_ofStamp_139 (by decide) rfl ?_
          refine g_retR X hr (by first | rfl | exact b2i_nar _) dX6_ofStamp_140 ?_
          have hT : ofStampS f (nI q) wh = b2i b6 := by
            unfold ofStampS
            rw [eN1, if_pos h13, ec19, if_pos (by decide), nI_clamp (by omega)]
            exact e6
          exact congrArg (fun x => some (Value.int x)) (by rw [hT, h132]; rfl)
        · replace h132 := b2i_n0 h132
          refine g_iconst (v := (1 : Int32)) X dX6_ofStamp_135 (by decide) rfl ?_
          refine g_goto X dX6_ofStamp_136 140 (by decide) ?_
          refine g_retR X hr (by first | rfl | exact b2i_nar _) dX6_ofStamp_140 ?_
          have hT : ofStampS f (nI q) wh = b2i b6 := by
            unfold ofStampS
            rw [eN1, if_pos h13, ec19, if_pos (by decide), nI_clamp (by omega)]
            exact e6
          exact congrArg (fun x => some (Value.int x)) (by rw [hT, h132]; rfl)
      · have ec19 : wh = (7 : Int32) := Int32.toInt_inj.mp hc
        refine g_pc 141 (by rw [hc]; rfl) ?_
        refine g_aload_n X dX6_ofStamp_141 rfl 1 rfl rfl ?_
        refine gB_get_VisaPages_house X dX6_ofStamp_142 hinX60 hl12 rfl ?_
        refine g_bipush (v := ((-6) : Int32)) X dX6_ofStamp_145 (by decide) rfl ?_
        refine g_callVRq (n := 1) (As := [_]) (rest := []) X (c_X2_goodStamps l D _ _ _ _ mk hmk h40 hst how _ (Or.inl rfl)) gX6_ofStamp_X2_goodStamps rfl (by decide +kernel) ⟨Nat.le_of_ble_eq_true rfl, Nat.le_of_ble_eq_true rfl⟩ 0 rfl rfl [0, 1, 2, 3, 4, 5, 6, 7, 8, 9, 10, 11, 12, 13, 14, 15, 16] rfl (by decide) rfl rfl (Nat.le_of_ble_eq_true rfl) dX6_ofStamp_147 ⟨Nat.le_of_ble_eq_true rfl, Nat.le_of_ble_eq_true rfl⟩ rfl (fun v hv => ?_)
        obtain rfl := hv
        refine g_st (st' := [_]) rfl ?_
        rw [fW_6]
        refine g_iload_n X dX6_ofStamp_150 rfl 2 rfl rfl ?_
        refine g_callSR (n := 2) (As := [_, _]) (rest := []) X (c_X6_isIn l D (mskN (gd f) mk) q (msk64 (by omega)) (by omega)) gX6_ofStamp_X6_isIn rfl (by decide +kernel) ⟨Nat.le_of_ble_eq_true rfl, Nat.le_of_ble_eq_true rfl⟩ [] rfl rfl rfl rfl (Nat.le_of_ble_eq_true rfl) dX6_ofStamp_151 ⟨Nat.le_of_ble_eq_true rfl, Nat.le_of_ble_eq_true rfl⟩ rfl (fun v hv => ?_)
        obtain rfl := hv
        refine g_st (st' := [_]) rfl ?_
        have hTb : (mskN (gd f) mk).testBit q = gd f q := by rw [mskN_bit, decide_eq_true hq, Bool.true_and]
        refine g_topi (y := b2i (gd f q)) (congrArg b2i hTb) ?_
        refine g_if_eq X dX6_ofStamp_154 161 (by decide) rfl (fun h154 => ?_) (fun h154 => ?_)
        · replace h154 := b2i_0 h154
          refine g_iconst (v := (0 : Int32)) X dX6_ofStamp_161 (by decide) rfl ?_
          refine g_retR X hr (by first | rfl | exact b2i_nar _) dX6_ofStamp_162 ?_
          have hT : ofStampS f (nI q) wh = b2i (gd f q) := by
            unfold ofStampS
            rw [eN1, if_pos h13, if_neg (by rw [ec19]; decide), if_pos ec19, nI_clamp (by omega)]
          exact congrArg (fun x => some (Value.int x)) (by rw [hT, h154]; rfl)
        · replace h154 := b2i_n0 h154
          refine g_iconst (v := (1 : Int32)) X dX6_ofStamp_157 (by decide) rfl ?_
          refine g_goto X dX6_ofStamp_158 162 (by decide) ?_
          refine g_retR X hr (by first | rfl | exact b2i_nar _) dX6_ofStamp_162 ?_
          have hT : ofStampS f (nI q) wh = b2i (gd f q) := by
            unfold ofStampS
            rw [eN1, if_pos h13, if_neg (by rw [ec19]; decide), if_pos ec19, nI_clamp (by omega)]
          exact congrArg (fun x => some (Value.int x)) (by rw [hT, h154]; rfl)
      · have ec19 : wh = (8 : Int32) := Int32.toInt_inj.mp hc
        refine g_pc 163 (by rw [hc]; rfl) ?_
        refine g_aload_n X dX6_ofStamp_163 rfl 0 rfl rfl ?_
        refine g_iload_n X dX6_ofStamp_164 rfl 2 rfl rfl ?_
        refine g_callVRq (n := 1) (As := [_]) (rest := []) X (c_X4_chainLength l D _ _ _ _ mk hmk h40 hst q hq) gX6_ofStamp_X4_chainLength rfl (by decide +kernel) ⟨Nat.le_of_ble_eq_true rfl, Nat.le_of_ble_eq_true rfl⟩ 5 rfl rfl [0, 1, 2, 3, 4, 5, 6, 7, 8, 9, 10, 11, 12, 13, 14, 15, 16] rfl (by decide) rfl rfl (Nat.le_of_ble_eq_true rfl) dX6_ofStamp_165 ⟨Nat.le_of_ble_eq_true rfl, Nat.le_of_ble_eq_true rfl⟩ rfl (fun v hv => ?_)
        obtain rfl := hv
        refine g_st (st' := [_]) rfl ?_
        refine g_retR X hr (by first | rfl | exact b2i_nar _) dX6_ofStamp_168 ?_
        exact congrArg (fun x => some (Value.int x)) (by unfold ofStampS; rw [eN1, if_pos h13, if_neg (by rw [ec19]; decide), if_neg (by rw [ec19]; decide), if_pos ec19])
      · have ec19 : wh = (9 : Int32) := Int32.toInt_inj.mp hc
        refine g_pc 169 (by rw [hc]; rfl) ?_
        refine g_aload_n X dX6_ofStamp_169 rfl 0 rfl rfl ?_
        refine g_iload_n X dX6_ofStamp_170 rfl 2 rfl rfl ?_
        refine g_callVRq (n := 1) (As := [_]) (rest := []) X (c_X4_countBelow l D _ _ _ _ mk hmk h40 hst q hq) gX6_ofStamp_X4_countBelow rfl (by decide +kernel) ⟨Nat.le_of_ble_eq_true rfl, Nat.le_of_ble_eq_true rfl⟩ 5 rfl rfl [0, 1, 2, 3, 4, 5, 6, 7, 8, 9, 10, 11, 12, 13, 14, 15, 16] rfl (by decide) rfl rfl (Nat.le_of_ble_eq_true rfl) dX6_ofStamp_171 ⟨Nat.le_of_ble_eq_true rfl, Nat.le_of_ble_eq_true rfl⟩ rfl (fun v hv => ?_)
        obtain rfl := hv
        refine g_st (st' := [_]) rfl ?_
        refine g_retR X hr (by first | rfl | exact b2i_nar _) dX6_ofStamp_174 ?_
        exact congrArg (fun x => some (Value.int x)) (by unfold ofStampS; rw [eN1, if_pos h13, if_neg (by rw [ec19]; decide), if_neg (by rw [ec19]; decide), if_neg (by rw [ec19]; decide), if_pos ec19, nI_clamp (by omega)])
    · have ne0 : ¬ wh = (0 : Int32) := fun z => by rw [z] at hd; exact absurd hd (by decide)
      have ne1 : ¬ wh = (1 : Int32) := fun z => by rw [z] at hd; exact absurd hd (by decide)
      have ne2 : ¬ wh = (2 : Int32) := fun z => by rw [z] at hd; exact absurd hd (by decide)
      have ne3 : ¬ wh = (3 : Int32) := fun z => by rw [z] at hd; exact absurd hd (by decide)
      have ne4 : ¬ wh = (4 : Int32) := fun z => by rw [z] at hd; exact absurd hd (by decide)
      have ne5 : ¬ wh = (5 : Int32) := fun z => by rw [z] at hd; exact absurd hd (by decide)
      have ne6 : ¬ wh = (6 : Int32) := fun z => by rw [z] at hd; exact absurd hd (by decide)
      have ne7 : ¬ wh = (7 : Int32) := fun z => by rw [z] at hd; exact absurd hd (by decide)
      have ne8 : ¬ wh = (8 : Int32) := fun z => by rw [z] at hd; exact absurd hd (by decide)
      have ne9 : ¬ wh = (9 : Int32) := fun z => by rw [z] at hd; exact absurd hd (by decide)
      refine g_bipush (v := ((-2) : Int32)) X dX6_ofStamp_175 (by decide) rfl ?_
      refine g_retR X hr (by first | rfl | exact b2i_nar _) dX6_ofStamp_177 ?_
      exact congrArg (fun x => some (Value.int x)) (by unfold ofStampS; rw [eN1, if_pos h13, if_neg (fun z => by have := of_decide_eq_true z; omega), if_neg ne7, if_neg ne8, if_neg ne9])
  · replace h13 := b2i_0 h13
    refine g_iconst (v := ((-1) : Int32)) X dX6_ofStamp_16 (by decide) rfl ?_
    refine g_retR X hr (by first | rfl | exact b2i_nar _) dX6_ofStamp_17 ?_
    exact congrArg (fun x => some (Value.int x)) (by unfold ofStampS; rw [eN1, if_neg (by rw [h13]; exact Bool.false_ne_true)])

set_option maxHeartbeats 4000000 in
set_option maxRecDepth 100000 in
theorem c_X6_needless (l : Launch) (D : DT) (a : Nat → Nat) (f : Nat → Int32) (na : Nat → Nat → Int32) (w td vl : Nat → Int32) (L pt fl : Nat) (kd : Int32) (kp : Nat) (fq fs : Nat → Option Nat) (tl : va_W) (mk n b : Nat) (hW : WF f mk n b) (hNR : NR f na n) (x : Int32) : MR l yX6_needless wsX6_needless 5 124 D [.ref (a 19), .int x] (wB D a f na w td vl L pt fl kd kp fq fs tl) (fun v => v = some (.long (needlessS f x))) := by
  obtain ⟨hmk, h40, hn8, hb0, hb1, hb8, hnb, hst, hno, how, hdo, hs1, hs2, hs3, hZF⟩ := id hW
  have h8 : n ≤ 8 := by omega
  obtain ⟨eN1, eN2, eN3⟩ := hW.N
  refine MR.of (cc := cX6_needless) (maxL := 2) (ret := (some .long)) (lv := [(0, .ref (a 19)), (1, .int x)]) (by decide +kernel) rfl (Nat.le_of_ble_eq_true rfl) rfl ?_
  intro p e s m below meth c A X hr hmn
  have hinX60 : ∀ w ∈ wsX60, w ∈ wsX6_needless := fun w h => List.mem_cons_of_mem _ (List.mem_append_left _ (List.mem_append_left _ (List.mem_append_right _ h)))
  have hinX20 : ∀ w ∈ wsX20, w ∈ wsX6_needless := fun w h => List.mem_cons_of_mem _ (List.mem_append_left _ (List.mem_append_right _ h))
  have hinX40 : ∀ w ∈ wsX40, w ∈ wsX6_needless := fun w h => List.mem_cons_of_mem _ (List.mem_append_right _ h)
  have hl12 := List.mem_of_getElem? (l := wsX6_needless) (i := 1) rfl
  refine g_iload_n X dX6_needless_0 rfl 1 rfl rfl ?_
  refine g_callSR (n := 1) (As := [_]) (rest := []) X (c_X6_isPage l D _) gX6_needless_X6_isPage rfl (by decide +kernel) ⟨Nat.le_of_ble_eq_true rfl, Nat.le_of_ble_eq_true rfl⟩ [] rfl rfl rfl rfl (Nat.le_of_ble_eq_true rfl) dX6_needless_1 ⟨Nat.le_of_ble_eq_true rfl, Nat.le_of_ble_eq_true rfl⟩ rfl (fun v hv => ?_)
  obtain rfl := hv
  refine g_st (st' := [_]) rfl ?_
  refine g_if_eq X dX6_needless_4 18 (by decide) rfl (fun h4 => ?_) (fun h4 => ?_)
  · replace h4 := b2i_0 h4
    refine g_ldc2 X dX6_needless_18 (List.mem_of_getElem? (i := 2) rfl) rfl ?_
    refine g_lretR X hr dX6_needless_21 ?_
    first
    | exact congrArg (fun x => some (Value.long x)) (by unfold needlessS; rw [if_neg (by rw [h4]; exact Bool.false_ne_true)])
    | exact congrArg (fun x => some (Value.long x)) (by unfold needlessS; rw [if_pos h4, eN1, ndI_msk _ (by omega)]; exact congrArg lN (mskN_P mk (fun k _ => by simp [Bool.and_comm, Bool.and_left_comm, Bool.and_assoc])))
  · replace h4 := b2i_n0 h4
    obtain ⟨q, hq, rfl⟩ := rng_nI h4
    refine g_aload_n X dX6_needless_7 rfl 0 rfl rfl ?_
    refine gB_get_VisaPages_house X dX6_needless_8 hinX60 hl12 rfl ?_
    refine g_iload_n X dX6_needless_11 rfl 1 rfl rfl ?_
    refine g_callVRq (n := 1) (As := [_]) (rest := []) X (c_X2_needlessFor l D _ _ _ _ mk hmk h40 hst how q hq) gX6_needless_X2_needlessFor rfl (by decide +kernel) ⟨Nat.le_of_ble_eq_true rfl, Nat.le_of_ble_eq_true rfl⟩ 0 rfl rfl [0, 1, 2, 3, 4, 5, 6, 7, 8, 9, 10, 11, 12, 13, 14, 15, 16] rfl (by decide) rfl rfl (Nat.le_of_ble_eq_true rfl) dX6_needless_12 ⟨Nat.le_of_ble_eq_true rfl, Nat.le_of_ble_eq_true rfl⟩ rfl (fun v hv => ?_)
    obtain rfl := hv
    refine g_st (st' := [_]) rfl ?_
    refine g_goto X dX6_needless_15 21 (by decide) ?_
    refine g_lretR X hr dX6_needless_21 ?_
    first
    | exact congrArg (fun x => some (Value.long x)) (by unfold needlessS; rw [if_neg (by rw [h4]; exact Bool.false_ne_true)])
    | exact congrArg (fun x => some (Value.long x)) (by unfold needlessS; rw [if_pos h4, eN1, ndI_msk _ (by omega)]; exact congrArg lN (mskN_P mk (fun k _ => by simp [Bool.and_comm, Bool.and_left_comm, Bool.and_assoc])))

set_option maxHeartbeats 4000000 in
set_option maxRecDepth 100000 in
theorem c_X6_walk (l : Launch) (D : DT) (a : Nat → Nat) (f : Nat → Int32) (na : Nat → Nat → Int32) (w td vl : Nat → Int32) (L pt fl : Nat) (kd : Int32) (kp : Nat) (fq fs : Nat → Option Nat) (tl : va_W) (mk n b : Nat) (hW : WF f mk n b) (hNR : NR f na n) (g d nd wh : Int32) : MW l yX6_walk wsX6_walk 4 97 0 0 D [.ref (a 19), .int g, .int d, .int nd, .int wh] (wB D a f na w td vl L pt fl kd kp fq fs tl) (fun v w2 => v = some (.int (walkS f g d nd wh)) ∧ ∃ w1 : Nat → Int32, w2 = (wB D a f na w1 td vl L pt fl kd kp fq fs tl)) := by
  obtain ⟨hmk, h40, hn8, hb0, hb1, hb8, hnb, hst, hno, how, hdo, hs1, hs2, hs3, hZF⟩ := id hW
  have h8 : n ≤ 8 := by omega
  obtain ⟨eN1, eN2, eN3⟩ := hW.N
  refine MW.of (cc := cX6_walk) (maxL := 5) (ret := (some .int)) (lv := [(0, .ref (a 19)), (1, .int g), (2, .int d), (3, .int nd), (4, .int wh)]) (by decide +kernel) rfl (Nat.le_of_ble_eq_true rfl) rfl ?_
  intro p e s m below meth c A hAe hAg X hr hmn
  have hinX60 : ∀ w ∈ wsX60, w ∈ wsX6_walk := fun w h => List.mem_cons_of_mem _ (List.mem_append_left _ (List.mem_append_left _ (List.mem_append_left _ (List.mem_append_right _ h))))
  have hinX50 : ∀ w ∈ wsX50, w ∈ wsX6_walk := fun w h => List.mem_cons_of_mem _ (List.mem_append_left _ (List.mem_append_left _ (List.mem_append_right _ h)))
  have hinX20 : ∀ w ∈ wsX20, w ∈ wsX6_walk := fun w h => List.mem_cons_of_mem _ (List.mem_append_left _ (List.mem_append_right _ h))
  have hinX40 : ∀ w ∈ wsX40, w ∈ wsX6_walk := fun w h => List.mem_cons_of_mem _ (List.mem_append_right _ h)
  have hl19 := List.mem_of_getElem? (l := wsX6_walk) (i := 1) rfl
  have hl12 := List.mem_of_getElem? (l := wsX6_walk) (i := 2) rfl
  have hl219 := List.mem_of_getElem? (l := wsX6_walk) (i := 3) rfl
  have hl222 := List.mem_of_getElem? (l := wsX6_walk) (i := 4) rfl
  refine g_iload_n X dX6_walk_0 rfl 1 rfl rfl ?_
  refine g_iload_n X dX6_walk_1 rfl 2 rfl rfl ?_
  refine g_callSR (n := 2) (As := [_, _]) (rest := []) X (c_X6_isDoor l D _ _) gX6_walk_X6_isDoor rfl (by decide +kernel) ⟨Nat.le_of_ble_eq_true rfl, Nat.le_of_ble_eq_true rfl⟩ [] rfl rfl rfl rfl (Nat.le_of_ble_eq_true rfl) dX6_walk_2 ⟨Nat.le_of_ble_eq_true rfl, Nat.le_of_ble_eq_true rfl⟩ rfl (fun v hv => ?_)
  obtain rfl := hv
  refine g_st (st' := [_]) rfl ?_
  refine g_if_ne X dX6_walk_5 10 (by decide) rfl (fun h5 => ?_) (fun h5 => ?_)
  · replace h5 := b2i_n0 h5
    have hC := h5
    obtain ⟨hgA, hdA⟩ := Bool.and_eq_true_iff.mp h5
    obtain ⟨gq, hgq, rfl⟩ := rng_nI hgA
    obtain ⟨dq, hdq, rfl⟩ := rng_nI hdA
    refine g_iload_n X dX6_walk_10 rfl 3 rfl rfl ?_
    refine g_callSR (n := 1) (As := [_]) (rest := []) X (c_X6_isNeed l D _) gX6_walk_X6_isNeed rfl (by decide +kernel) ⟨Nat.le_of_ble_eq_true rfl, Nat.le_of_ble_eq_true rfl⟩ [] rfl rfl rfl rfl (Nat.le_of_ble_eq_true rfl) dX6_walk_11 ⟨Nat.le_of_ble_eq_true rfl, Nat.le_of_ble_eq_true rfl⟩ rfl (fun v hv => ?_)
    obtain rfl := hv
    refine g_st (st' := [_]) rfl ?_
    refine g_if_eq X dX6_walk_14 28 (by decide) rfl (fun h14 => ?_) (fun h14 => ?_)
    · replace h14 := b2i_0 h14
      refine g_bipush (v := ((-2) : Int32)) X dX6_walk_28 (by decide) rfl ?_
      refine g_retW X hr (by first | rfl | exact b2i_nar _) dX6_walk_30 hAe ?_
      exact ⟨congrArg (fun x => some (Value.int x)) (by
        unfold walkS
        rw [if_pos hC, if_neg]
        rintro ⟨z1, z2⟩
        first
        | exact of_decide_eq_false h14 z1
        | (obtain ⟨k, hk, ek⟩ := rng_nI z2
           rcases (show k = 0 ∨ k = 1 by omega) with rfl | rfl
           · exact h19 ek
           · exact h25 ek)), w, rfl⟩
    · replace h14 := b2i_n0 h14
      refine g_iload X dX6_walk_17 4 rfl rfl ?_
      refine g_if_eq X dX6_walk_19 31 (by decide) rfl (fun h19 => ?_) (fun h19 => ?_)
      · have hND : (nd = 1 ∨ nd = 2) ∧ rng 2 wh = true := ⟨of_decide_eq_true h14, by first | (rw [h19]; decide) | (rw [h25]; decide)⟩
        refine g_aload_n X dX6_walk_31 rfl 0 rfl rfl ?_
        refine gB_get_VisaPages_walker X dX6_walk_32 hinX60 hl19 rfl ?_
        refine g_aload_n X dX6_walk_35 rfl 0 rfl rfl ?_
        refine gB_get_VisaPages_house X dX6_walk_36 hinX60 hl12 rfl ?_
        refine g_iload_n X dX6_walk_39 rfl 1 rfl rfl ?_
        refine g_iload_n X dX6_walk_40 rfl 2 rfl rfl ?_
        refine g_iload_n X dX6_walk_41 rfl 3 rfl rfl ?_
        refine g_callVWq (n := 4) (As := [_, _, _, _]) (rest := []) X hAg rfl (c_X5_go l D _ _ _ _ mk hmk h40 hst how hdo gq dq hgq hdq nd) gX6_walk_X5_go rfl (by decide +kernel) ⟨Nat.le_of_ble_eq_true rfl, Nat.le_of_ble_eq_true rfl⟩ 16 rfl rfl [0, 1, 2, 3, 4, 5, 6, 7, 8, 9, 10, 11, 12, 13, 14, 15, 16] rfl (by decide) rfl rfl (Nat.le_of_ble_eq_true rfl) dX6_walk_42 ⟨Nat.le_of_ble_eq_true rfl, Nat.le_of_ble_eq_true rfl⟩ rfl (fun v w hv => ?_)
        obtain ⟨rfl, w1, rfl, hw0, hw1⟩ := hv
        refine ⟨rfl, ?_⟩
        refine g_ws wB_h ?_
        refine g_st (st' := []) rfl ?_
        refine g_iload X dX6_walk_45 4 rfl rfl ?_
        refine g_if_ne X dX6_walk_47 60 (by decide) rfl (fun h47 => ?_) (fun h47 => ?_)
        · refine g_aload_n X dX6_walk_60 rfl 0 rfl rfl ?_
          refine gB_get_VisaPages_walker X dX6_walk_61 hinX60 hl19 rfl ?_
          refine gB_get_Walk_steps X dX6_walk_64 hinX50 hl222 rfl ?_
          refine g_topi hw1 ?_
          refine g_retW X hr (by first | rfl | exact b2i_nar _) dX6_walk_67 hAe ?_
          first
          | exact ⟨congrArg (fun x => some (Value.int x)) (by unfold walkS; rw [if_pos hC, if_pos hND, if_pos h47, nI_clamp (by omega), nI_clamp (by omega)]), w1, rfl⟩
          | exact ⟨congrArg (fun x => some (Value.int x)) (by unfold walkS; rw [if_pos hC, if_pos hND, if_neg h47, nI_clamp (by omega), nI_clamp (by omega)]), w1, rfl⟩
        · refine g_aload_n X dX6_walk_50 rfl 0 rfl rfl ?_
          refine gB_get_VisaPages_walker X dX6_walk_51 hinX60 hl19 rfl ?_
          refine gB_get_Walk_reason X dX6_walk_54 hinX50 hl219 rfl ?_
          refine g_topi hw0 ?_
          refine g_goto X dX6_walk_57 67 (by decide) ?_
          refine g_retW X hr (by first | rfl | exact b2i_nar _) dX6_walk_67 hAe ?_
          first
          | exact ⟨congrArg (fun x => some (Value.int x)) (by unfold walkS; rw [if_pos hC, if_pos hND, if_pos h47, nI_clamp (by omega), nI_clamp (by omega)]), w1, rfl⟩
          | exact ⟨congrArg (fun x => some (Value.int x)) (by unfold walkS; rw [if_pos hC, if_pos hND, if_neg h47, nI_clamp (by omega), nI_clamp (by omega)]), w1, rfl⟩
      · refine g_iload X dX6_walk_22 4 rfl rfl ?_
        refine g_iconst (v := (1 : Int32)) X dX6_walk_24 (by decide) rfl ?_
        refine g_icmp_eq X dX6_walk_25 31 (by decide) rfl (fun h25 => ?_) (fun h25 => ?_)
        · have hND : (nd = 1 ∨ nd = 2) ∧ rng 2 wh = true := ⟨of_decide_eq_true h14, by first | (rw [h19]; decide) | (rw [h25]; decide)⟩
          refine g_aload_n X dX6_walk_31 rfl 0 rfl rfl ?_
          refine gB_get_VisaPages_walker X dX6_walk_32 hinX60 hl19 rfl ?_
          refine g_aload_n X dX6_walk_35 rfl 0 rfl rfl ?_
          refine gB_get_VisaPages_house X dX6_walk_36 hinX60 hl12 rfl ?_
          refine g_iload_n X dX6_walk_39 rfl 1 rfl rfl ?_
          refine g_iload_n X dX6_walk_40 rfl 2 rfl rfl ?_
          refine g_iload_n X dX6_walk_41 rfl 3 rfl rfl ?_
          refine g_callVWq (n := 4) (As := [_, _, _, _]) (rest := []) X hAg rfl (c_X5_go l D _ _ _ _ mk hmk h40 hst how hdo gq dq hgq hdq nd) gX6_walk_X5_go rfl (by decide +kernel) ⟨Nat.le_of_ble_eq_true rfl, Nat.le_of_ble_eq_true rfl⟩ 16 rfl rfl [0, 1, 2, 3, 4, 5, 6, 7, 8, 9, 10, 11, 12, 13, 14, 15, 16] rfl (by decide) rfl rfl (Nat.le_of_ble_eq_true rfl) dX6_walk_42 ⟨Nat.le_of_ble_eq_true rfl, Nat.le_of_ble_eq_true rfl⟩ rfl (fun v w hv => ?_)
          obtain ⟨rfl, w1, rfl, hw0, hw1⟩ := hv
          refine ⟨rfl, ?_⟩
          refine g_ws wB_h ?_
          refine g_st (st' := []) rfl ?_
          refine g_iload X dX6_walk_45 4 rfl rfl ?_
          refine g_if_ne X dX6_walk_47 60 (by decide) rfl (fun h47 => ?_) (fun h47 => ?_)
          · refine g_aload_n X dX6_walk_60 rfl 0 rfl rfl ?_
            refine gB_get_VisaPages_walker X dX6_walk_61 hinX60 hl19 rfl ?_
            refine gB_get_Walk_steps X dX6_walk_64 hinX50 hl222 rfl ?_
            refine g_topi hw1 ?_
            refine g_retW X hr (by first | rfl | exact b2i_nar _) dX6_walk_67 hAe ?_
            first
            | exact ⟨congrArg (fun x => some (Value.int x)) (by unfold walkS; rw [if_pos hC, if_pos hND, if_pos h47, nI_clamp (by omega), nI_clamp (by omega)]), w1, rfl⟩
            | exact ⟨congrArg (fun x => some (Value.int x)) (by unfold walkS; rw [if_pos hC, if_pos hND, if_neg h47, nI_clamp (by omega), nI_clamp (by omega)]), w1, rfl⟩
          · refine g_aload_n X dX6_walk_50 rfl 0 rfl rfl ?_
            refine gB_get_VisaPages_walker X dX6_walk_51 hinX60 hl19 rfl ?_
            refine gB_get_Walk_reason X dX6_walk_54 hinX50 hl219 rfl ?_
            refine g_topi hw0 ?_
            refine g_goto X dX6_walk_57 67 (by decide) ?_
            refine g_retW X hr (by first | rfl | exact b2i_nar _) dX6_walk_67 hAe ?_
            first
            | exact ⟨congrArg (fun x => some (Value.int x)) (by unfold walkS; rw [if_pos hC, if_pos hND, if_pos h47, nI_clamp (by omega), nI_clamp (by omega)]), w1, rfl⟩
            | exact ⟨congrArg (fun x => some (Value.int x)) (by unfold walkS; rw [if_pos hC, if_pos hND, if_neg h47, nI_clamp (by omega), nI_clamp (by omega)]), w1, rfl⟩
        · refine g_bipush (v := ((-2) : Int32)) X dX6_walk_28 (by decide) rfl ?_
          refine g_retW X hr (by first | rfl | exact b2i_nar _) dX6_walk_30 hAe ?_
          exact ⟨congrArg (fun x => some (Value.int x)) (by
            unfold walkS
            rw [if_pos hC, if_neg]
            rintro ⟨z1, z2⟩
            first
            | exact of_decide_eq_false h14 z1
            | (obtain ⟨k, hk, ek⟩ := rng_nI z2
               rcases (show k = 0 ∨ k = 1 by omega) with rfl | rfl
               · exact h19 ek
               · exact h25 ek)), w, rfl⟩
  · replace h5 := b2i_0 h5
    refine g_iconst (v := ((-1) : Int32)) X dX6_walk_8 (by decide) rfl ?_
    refine g_retW X hr (by first | rfl | exact b2i_nar _) dX6_walk_9 hAe ?_
    exact ⟨congrArg (fun x => some (Value.int x)) (by unfold walkS; rw [if_neg (by rw [h5]; exact Bool.false_ne_true)]), w, rfl⟩

set_option maxHeartbeats 4000000 in
set_option maxRecDepth 100000 in
theorem c_X6_put (l : Launch) (D : DT) (a : Nat → Nat) (f : Nat → Int32) (na : Nat → Nat → Int32) (w td vl : Nat → Int32) (L pt fl : Nat) (kd : Int32) (kp : Nat) (fq fs : Nat → Option Nat) (tl : va_W) (hL : L ≤ 80) (nn : Nat) (hnn : nn < 2 ^ 64) : MW l yX6_put wsX6_put 3 69 0 0 D [.ref (a 19), .long (lN nn)] (wB D a f na w td vl L pt fl kd kp fq fs tl) (fun v w2 => v = some (.int (putS nn L)) ∧ w2 = (wB D a f na w (putF td nn L) vl (putL nn L) pt fl kd kp fq fs tl)) := by
  refine MW.of (cc := cX6_put) (maxL := 3) (ret := (some .int)) (lv := [(0, .ref (a 19)), (1, .long (lN nn))]) (by decide +kernel) rfl (Nat.le_of_ble_eq_true rfl) rfl ?_
  intro p e s m below meth c A hAe hAg X hr hmn
  have hinX60 : ∀ w ∈ wsX60, w ∈ wsX6_put := fun w h => List.mem_cons_of_mem _ (List.mem_append_left _ (List.mem_append_right _ h))
  have hinX30 : ∀ w ∈ wsX30, w ∈ wsX6_put := fun w h => List.mem_cons_of_mem _ (List.mem_append_right _ h)
  have hl26 := List.mem_of_getElem? (l := wsX6_put) (i := 1) rfl
  refine g_aload_n X dX6_put_0 rfl 0 rfl rfl ?_
  refine gB_get_VisaPages_pad X dX6_put_1 hinX60 hl26 rfl ?_
  refine g_lload_n X dX6_put_4 rfl 1 rfl rfl ?_
  refine g_callVWq (n := 1) (As := [_]) (rest := []) X hAg rfl (c_X3_append l D a td vl L pt fl kd hL nn hnn) gX6_put_X3_append rfl (by decide +kernel) ⟨Nat.le_of_ble_eq_true rfl, Nat.le_of_ble_eq_true rfl⟩ 0 rfl rfl [17, 18, 19] rfl (by decide) rfl rfl (Nat.le_of_ble_eq_true rfl) dX6_put_5 ⟨Nat.le_of_ble_eq_true rfl, Nat.le_of_ble_eq_true rfl⟩ rfl (fun v w hv => ?_)
  obtain ⟨rfl, rfl⟩ := hv
  refine ⟨rfl, ?_⟩
  refine g_ws wB_p ?_
  refine g_st (st' := [_]) rfl ?_
  refine g_retW X hr (by first | rfl | exact b2i_nar _) dX6_put_8 hAe ?_
  exact ⟨rfl, rfl⟩

set_option maxHeartbeats 4000000 in
set_option maxRecDepth 100000 in
theorem c_X6_wipe (l : Launch) (D : DT) (a : Nat → Nat) (f : Nat → Int32) (na : Nat → Nat → Int32) (w td vl : Nat → Int32) (L pt fl : Nat) (kd : Int32) (kp : Nat) (fq fs : Nat → Option Nat) (tl : va_W) (hL : L ≤ 80) : MW l yX6_wipe wsX6_wipe 1 21 0 0 D [.ref (a 19)] (wB D a f na w td vl L pt fl kd kp fq fs tl) (fun v w2 => v = some (.int (nI L)) ∧ w2 = (wB D a f na w td vl 0 pt fl kd kp fq fs tl)) := by
  refine MW.of (cc := cX6_wipe) (maxL := 1) (ret := (some .int)) (lv := [(0, .ref (a 19))]) (by decide +kernel) rfl (Nat.le_of_ble_eq_true rfl) rfl ?_
  intro p e s m below meth c A hAe hAg X hr hmn
  have hinX60 : ∀ w ∈ wsX60, w ∈ wsX6_wipe := fun w h => List.mem_cons_of_mem _ (List.mem_append_left _ (List.mem_append_right _ h))
  have hinX30 : ∀ w ∈ wsX30, w ∈ wsX6_wipe := fun w h => List.mem_cons_of_mem _ (List.mem_append_right _ h)
  have hl26 := List.mem_of_getElem? (l := wsX6_wipe) (i := 1) rfl
  refine g_aload_n X dX6_wipe_0 rfl 0 rfl rfl ?_
  refine gB_get_VisaPages_pad X dX6_wipe_1 hinX60 hl26 rfl ?_
  refine g_callVWq (n := 0) (As := []) (rest := []) X hAg rfl (c_X3_clear l D a td vl L pt fl kd hL) gX6_wipe_X3_clear rfl (by decide +kernel) ⟨Nat.le_of_ble_eq_true rfl, Nat.le_of_ble_eq_true rfl⟩ 0 rfl rfl [17, 18, 19] rfl (by decide) rfl rfl (Nat.le_of_ble_eq_true rfl) dX6_wipe_4 ⟨Nat.le_of_ble_eq_true rfl, Nat.le_of_ble_eq_true rfl⟩ rfl (fun v w hv => ?_)
  obtain ⟨rfl, rfl⟩ := hv
  refine ⟨rfl, ?_⟩
  refine g_ws wB_p ?_
  refine g_st (st' := [_]) rfl ?_
  refine g_retW X hr (by first | rfl | exact b2i_nar _) dX6_wipe_7 hAe ?_
  exact ⟨rfl, rfl⟩

set_option maxHeartbeats 4000000 in
set_option maxRecDepth 100000 in
theorem c_X6_fault (l : Launch) (D : DT) (a : Nat → Nat) (f : Nat → Int32) (na : Nat → Nat → Int32) (w td vl : Nat → Int32) (L pt fl : Nat) (kd : Int32) (kp : Nat) (fq fs : Nat → Option Nat) (tl : va_W) (hL : L ≤ 80) (hch : ∀ k, k < L → ∃ ch : Nat, ch < 256 ∧ td k = nI ch) : MW l yX6_fault wsX6_fault 7 158 0 0 D [.ref (a 19)] (wB D a f na w td vl L pt fl kd kp fq fs tl) (fun v w2 => v = some (.int (yF td L 80 0 fl vl)) ∧ ∃ (p9 f9 : Nat) (v9 : Nat → Int32) (k9 : Int32), p9 ≤ L ∧ w2 = (wB D a f na w td v9 L p9 f9 k9 kp fq fs tl)) := by
  refine MW.of (cc := cX6_fault) (maxL := 1) (ret := (some .int)) (lv := [(0, .ref (a 19))]) (by decide +kernel) rfl (Nat.le_of_ble_eq_true rfl) rfl ?_
  intro p e s m below meth c A hAe hAg X hr hmn
  have hinX60 : ∀ w ∈ wsX60, w ∈ wsX6_fault := fun w h => List.mem_cons_of_mem _ (List.mem_append_left _ (List.mem_append_right _ h))
  have hinX30 : ∀ w ∈ wsX30, w ∈ wsX6_fault := fun w h => List.mem_cons_of_mem _ (List.mem_append_right _ h)
  have hl26 := List.mem_of_getElem? (l := wsX6_fault) (i := 1) rfl
  refine g_aload_n X dX6_fault_0 rfl 0 rfl rfl ?_
  refine gB_get_VisaPages_pad X dX6_fault_1 hinX60 hl26 rfl ?_
  refine g_callVWq (n := 0) (As := []) (rest := []) X hAg rfl (c_X3_findFault l D a td vl L pt fl kd hL hch) gX6_fault_X3_findFault rfl (by decide +kernel) ⟨Nat.le_of_ble_eq_true rfl, Nat.le_of_ble_eq_true rfl⟩ 0 rfl rfl [17, 18, 19] rfl (by decide) rfl rfl (Nat.le_of_ble_eq_true rfl) dX6_fault_4 ⟨Nat.le_of_ble_eq_true rfl, Nat.le_of_ble_eq_true rfl⟩ rfl (fun v w hv => ?_)
  obtain ⟨rfl, p9, f9, v9, k9, hp9, rfl⟩ := hv
  refine ⟨rfl, ?_⟩
  refine g_ws wB_p ?_
  refine g_st (st' := [_]) rfl ?_
  refine g_retW X hr (by first | rfl | exact b2i_nar _) dX6_fault_7 hAe ?_
  exact ⟨rfl, p9, f9, v9, k9, hp9, rfl⟩
