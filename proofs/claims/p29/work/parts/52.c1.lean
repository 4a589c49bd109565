set_option maxHeartbeats 4000000 in
set_option maxRecDepth 100000 in
theorem c_X6_isGuest (l : Launch) (D : DT) (x : Int32) : MR l yX6_isGuest wsX6_isGuest 0 0 D [.int x] [] (fun v => v = some (.int (b2i (rng 6 x)))) := by
  refine MR.of (cc := cX6_isGuest) (maxL := 1) (ret := (some .boolean)) (lv := [(0, .int x)]) (by decide +kernel) rfl (Nat.le_of_ble_eq_true rfl) rfl ?_
  intro p e s m below meth c A X hr hmn
  refine g_iload_n X dX6_isGuest_0 rfl 0 rfl rfl ?_
  refine g_if_lt X dX6_isGuest_1 14 (by decide) rfl (fun h1 => ?_) (fun h1 => ?_)
  · have i1 : _ < (0 : Int) := ic_lt h1
    refine g_iconst (v := (0 : Int32)) X dX6_isGuest_14 (by decide) rfl ?_
    refine g_retR X hr (by first | rfl | exact b2i_nar _) dX6_isGuest_15 ?_
    unfold rng
    first | exact ret_t ⟨by omega, by omega⟩ | exact ret_f (by omega)
  · have i1 : (0 : Int) ≤ _ := ic_nlt h1
    refine g_iload_n X dX6_isGuest_4 rfl 0 rfl rfl ?_
    refine g_bipush (v := (6 : Int32)) X dX6_isGuest_5 (by decide) rfl ?_
    refine g_icmp_ge X dX6_isGuest_7 14 (by decide) rfl (fun h7 => ?_) (fun h7 => ?_)
    · have i7 : (6 : Int) ≤ _ := ic_le h7
      refine g_iconst (v := (0 : Int32)) X dX6_isGuest_14 (by decide) rfl ?_
      refine g_retR X hr (by first | rfl | exact b2i_nar _) dX6_isGuest_15 ?_
      unfold rng
      first | exact ret_t ⟨by omega, by omega⟩ | exact ret_f (by omega)
    · have i7 : _ < (6 : Int) := ic_nle h7
      refine g_iconst (v := (1 : Int32)) X dX6_isGuest_10 (by decide) rfl ?_
      refine g_goto X dX6_isGuest_11 15 (by decide) ?_
      refine g_retR X hr (by first | rfl | exact b2i_nar _) dX6_isGuest_15 ?_
      unfold rng
      first | exact ret_t ⟨by omega, by omega⟩ | exact ret_f (by omega)

set_option maxHeartbeats 4000000 in
set_option maxRecDepth 100000 in
theorem c_X6_isPage (l : Launch) (D : DT) (x : Int32) : MR l yX6_isPage wsX6_isPage 0 0 D [.int x] [] (fun v => v = some (.int (b2i (rng 12 x)))) := by
  refine MR.of (cc := cX6_isPage) (maxL := 1) (ret := (some .boolean)) (lv := [(0, .int x)]) (by decide +kernel) rfl (Nat.le_of_ble_eq_true rfl) rfl ?_
  intro p e s m below meth c A X hr hmn
  refine g_iload_n X dX6_isPage_0 rfl 0 rfl rfl ?_
  refine g_if_lt X dX6_isPage_1 14 (by decide) rfl (fun h1 => ?_) (fun h1 => ?_)
  · have i1 : _ < (0 : Int) := ic_lt h1
    refine g_iconst (v := (0 : Int32)) X dX6_isPage_14 (by decide) rfl ?_
    refine g_retR X hr (by first | rfl | exact b2i_nar _) dX6_isPage_15 ?_
    unfold rng
    first | exact ret_t ⟨by omega, by omega⟩ | exact ret_f (by omega)
  · have i1 : (0 : Int) ≤ _ := ic_nlt h1
    refine g_iload_n X dX6_isPage_4 rfl 0 rfl rfl ?_
    refine g_bipush (v := (12 : Int32)) X dX6_isPage_5 (by decide) rfl ?_
    refine g_icmp_ge X dX6_isPage_7 14 (by decide) rfl (fun h7 => ?_) (fun h7 => ?_)
    · have i7 : (12 : Int) ≤ _ := ic_le h7
      refine g_iconst (v := (0 : Int32)) X dX6_isPage_14 (by decide) rfl ?_
      refine g_retR X hr (by first | rfl | exact b2i_nar _) dX6_isPage_15 ?_
      unfold rng
      first | exact ret_t ⟨by omega, by omega⟩ | exact ret_f (by omega)
    · have i7 : _ < (12 : Int) := ic_nle h7
      refine g_iconst (v := (1 : Int32)) X dX6_isPage_10 (by decide) rfl ?_
      refine g_goto X dX6_isPage_11 15 (by decide) ?_
      refine g_retR X hr (by first | rfl | exact b2i_nar _) dX6_isPage_15 ?_
      unfold rng
      first | exact ret_t ⟨by omega, by omega⟩ | exact ret_f (by omega)

set_option maxHeartbeats 4000000 in
set_option maxRecDepth 100000 in
theorem c_X6_isSlot (l : Launch) (D : DT) (x : Int32) : MR l yX6_isSlot wsX6_isSlot 0 0 D [.int x] [] (fun v => v = some (.int (b2i (rng 2 x)))) := by
  refine MR.of (cc := cX6_isSlot) (maxL := 1) (ret := (some .boolean)) (lv := [(0, .int x)]) (by decide +kernel) rfl (Nat.le_of_ble_eq_true rfl) rfl ?_
  intro p e s m below meth c A X hr hmn
  refine g_iload_n X dX6_isSlot_0 rfl 0 rfl rfl ?_
  refine g_if_lt X dX6_isSlot_1 13 (by decide) rfl (fun h1 => ?_) (fun h1 => ?_)
  · have i1 : _ < (0 : Int) := ic_lt h1
    refine g_iconst (v := (0 : Int32)) X dX6_isSlot_13 (by decide) rfl ?_
    refine g_retR X hr (by first | rfl | exact b2i_nar _) dX6_isSlot_14 ?_
    unfold rng
    first | exact ret_t ⟨by omega, by omega⟩ | exact ret_f (by omega)
  · have i1 : (0 : Int) ≤ _ := ic_nlt h1
    refine g_iload_n X dX6_isSlot_4 rfl 0 rfl rfl ?_
    refine g_iconst (v := (2 : Int32)) X dX6_isSlot_5 (by decide) rfl ?_
    refine g_icmp_ge X dX6_isSlot_6 13 (by decide) rfl (fun h6 => ?_) (fun h6 => ?_)
    · have i6 : (2 : Int) ≤ _ := ic_le h6
      refine g_iconst (v := (0 : Int32)) X dX6_isSlot_13 (by decide) rfl ?_
      refine g_retR X hr (by first | rfl | exact b2i_nar _) dX6_isSlot_14 ?_
      unfold rng
      first | exact ret_t ⟨by omega, by omega⟩ | exact ret_f (by omega)
    · have i6 : _ < (2 : Int) := ic_nle h6
      refine g_iconst (v := (1 : Int32)) X dX6_isSlot_9 (by decide) rfl ?_
      refine g_goto X dX6_isSlot_10 14 (by decide) ?_
      refine g_retR X hr (by first | rfl | exact b2i_nar _) dX6_isSlot_14 ?_
      unfold rng
      first | exact ret_t ⟨by omega, by omega⟩ | exact ret_f (by omega)

set_option maxHeartbeats 4000000 in
set_option maxRecDepth 100000 in
theorem c_X6_areRights (l : Launch) (D : DT) (x : Int32) : MR l yX6_areRights wsX6_areRights 0 0 D [.int x] [] (fun v => v = some (.int (b2i (rtOK x)))) := by
  refine MR.of (cc := cX6_areRights) (maxL := 1) (ret := (some .boolean)) (lv := [(0, .int x)]) (by decide +kernel) rfl (Nat.le_of_ble_eq_true rfl) rfl ?_
  intro p e s m below meth c A X hr hmn
  refine g_iload_n X dX6_areRights_0 rfl 0 rfl rfl ?_
  refine g_iconst (v := (1 : Int32)) X dX6_areRights_1 (by decide) rfl ?_
  refine g_icmp_lt X dX6_areRights_2 15 (by decide) rfl (fun h2 => ?_) (fun h2 => ?_)
  · have i2 : _ < (1 : Int) := ic_lt h2
    refine g_iconst (v := (0 : Int32)) X dX6_areRights_15 (by decide) rfl ?_
    refine g_retR X hr (by first | rfl | exact b2i_nar _) dX6_areRights_16 ?_
    unfold rtOK
    first | exact ret_t ⟨by omega, by omega⟩ | exact ret_f (by omega)
  · have i2 : (1 : Int) ≤ _ := ic_nlt h2
    refine g_iload_n X dX6_areRights_5 rfl 0 rfl rfl ?_
    refine g_bipush (v := (7 : Int32)) X dX6_areRights_6 (by decide) rfl ?_
    refine g_icmp_gt X dX6_areRights_8 15 (by decide) rfl (fun h8 => ?_) (fun h8 => ?_)
    · have i8 : (7 : Int) < _ := ic_lt h8
      refine g_iconst (v := (0 : Int32)) X dX6_areRights_15 (by decide) rfl ?_
      refine g_retR X hr (by first | rfl | exact b2i_nar _) dX6_areRights_16 ?_
      unfold rtOK
      first | exact ret_t ⟨by omega, by omega⟩ | exact ret_f (by omega)
    · have i8 : _ ≤ (7 : Int) := ic_nlt h8
      refine g_iconst (v := (1 : Int32)) X dX6_areRights_11 (by decide) rfl ?_
      refine g_goto X dX6_areRights_12 16 (by decide) ?_
      refine g_retR X hr (by first | rfl | exact b2i_nar _) dX6_areRights_16 ?_
      unfold rtOK
      first | exact ret_t ⟨by omega, by omega⟩ | exact ret_f (by omega)

set_option maxHeartbeats 4000000 in
set_option maxRecDepth 100000 in
theorem c_X6_isNeed (l : Launch) (D : DT) (x : Int32) : MR l yX6_isNeed wsX6_isNeed 0 0 D [.int x] [] (fun v => v = some (.int (b2i (decide (x = 1 ∨ x = 2))))) := by
  refine MR.of (cc := cX6_isNeed) (maxL := 1) (ret := (some .boolean)) (lv := [(0, .int x)]) (by decide +kernel) rfl (Nat.le_of_ble_eq_true rfl) rfl ?_
  intro p e s m below meth c A X hr hmn
  refine g_iload_n X dX6_isNeed_0 rfl 0 rfl rfl ?_
  refine g_iconst (v := (1 : Int32)) X dX6_isNeed_1 (by decide) rfl ?_
  refine g_icmp_eq X dX6_isNeed_2 10 (by decide) rfl (fun h2 => ?_) (fun h2 => ?_)
  · refine g_iconst (v := (1 : Int32)) X dX6_isNeed_10 (by decide) rfl ?_
    refine g_goto X dX6_isNeed_11 15 (by decide) ?_
    refine g_retR X hr (by first | rfl | exact b2i_nar _) dX6_isNeed_15 ?_
    first | exact ret_1 (by simp [*]) | exact ret_0 (by simp [*])
  · refine g_iload_n X dX6_isNeed_5 rfl 0 rfl rfl ?_
    refine g_iconst (v := (2 : Int32)) X dX6_isNeed_6 (by decide) rfl ?_
    refine g_icmp_ne X dX6_isNeed_7 14 (by decide) rfl (fun h7 => ?_) (fun h7 => ?_)
    · refine g_iconst (v := (0 : Int32)) X dX6_isNeed_14 (by decide) rfl ?_
      refine g_retR X hr (by first | rfl | exact b2i_nar _) dX6_isNeed_15 ?_
      first | exact ret_1 (by simp [*]) | exact ret_0 (by simp [*])
    · refine g_iconst (v := (1 : Int32)) X dX6_isNeed_10 (by decide) rfl ?_
      refine g_goto X dX6_isNeed_11 15 (by decide) ?_
      refine g_retR X hr (by first | rfl | exact b2i_nar _) dX6_isNeed_15 ?_
      first | exact ret_1 (by simp [*]) | exact ret_0 (by simp [*])

set_option maxHeartbeats 4000000 in
set_option maxRecDepth 100000 in
theorem c_X6_isDoor (l : Launch) (D : DT) (g d : Int32) : MR l yX6_isDoor wsX6_isDoor 0 0 D [.int g, .int d] [] (fun v => v = some (.int (b2i (rng 6 g && rng 10 d)))) := by
  refine MR.of (cc := cX6_isDoor) (maxL := 2) (ret := (some .boolean)) (lv := [(0, .int g), (1, .int d)]) (by decide +kernel) rfl (Nat.le_of_ble_eq_true rfl) rfl ?_
  intro p e s m below meth c A X hr hmn
  refine g_iload_n X dX6_isDoor_0 rfl 0 rfl rfl ?_
  refine g_if_lt X dX6_isDoor_1 24 (by decide) rfl (fun h1 => ?_) (fun h1 => ?_)
  · have i1 : _ < (0 : Int) := ic_lt h1
    refine g_iconst (v := (0 : Int32)) X dX6_isDoor_24 (by decide) rfl ?_
    refine g_retR X hr (by first | rfl | exact b2i_nar _) dX6_isDoor_25 ?_
    first
    | exact ret_1 (Bool.and_eq_true_iff.mpr ⟨decide_eq_true ⟨by omega, by omega⟩, decide_eq_true ⟨by omega, by omega⟩⟩)
    | exact ret_0 (Bool.eq_false_iff.mpr (fun z => by have h1 := of_decide_eq_true (Bool.and_eq_true_iff.mp z).1; have h2 := of_decide_eq_true (Bool.and_eq_true_iff.mp z).2; omega))
  · have i1 : (0 : Int) ≤ _ := ic_nlt h1
    refine g_iload_n X dX6_isDoor_4 rfl 0 rfl rfl ?_
    refine g_bipush (v := (6 : Int32)) X dX6_isDoor_5 (by decide) rfl ?_
    refine g_icmp_ge X dX6_isDoor_7 24 (by decide) rfl (fun h7 => ?_) (fun h7 => ?_)
    · have i7 : (6 : Int) ≤ _ := ic_le h7
      refine g_iconst (v := (0 : Int32)) X dX6_isDoor_24 (by decide) rfl ?_
      refine g_retR X hr (by first | rfl | exact b2i_nar _) dX6_isDoor_25 ?_
      first
      | exact ret_1 (Bool.and_eq_true_iff.mpr ⟨decide_eq_true ⟨by omega, by omega⟩, decide_eq_true ⟨by omega, by omega⟩⟩)
      | exact ret_0 (Bool.eq_false_iff.mpr (fun z => by have h1 := of_decide_eq_true (Bool.and_eq_true_iff.mp z).1; have h2 := of_decide_eq_true (Bool.and_eq_true_iff.mp z).2; omega))
    · have i7 : _ < (6 : Int) := ic_nle h7
      refine g_iload_n X dX6_isDoor_10 rfl 1 rfl rfl ?_
      refine g_if_lt X dX6_isDoor_11 24 (by decide) rfl (fun h11 => ?_) (fun h11 => ?_)
      · have i11 : _ < (0 : Int) := ic_lt h11
        refine g_iconst (v := (0 : Int32)) X dX6_isDoor_24 (by decide) rfl ?_
        refine g_retR X hr (by first | rfl | exact b2i_nar _) dX6_isDoor_25 ?_
        first
        | exact ret_1 (Bool.and_eq_true_iff.mpr ⟨decide_eq_true ⟨by omega, by omega⟩, decide_eq_true ⟨by omega, by omega⟩⟩)
        | exact ret_0 (Bool.eq_false_iff.mpr (fun z => by have h1 := of_decide_eq_true (Bool.and_eq_true_iff.mp z).1; have h2 := of_decide_eq_true (Bool.and_eq_true_iff.mp z).2; omega))
      · have i11 : (0 : Int) ≤ _ := ic_nlt h11
        refine g_iload_n X dX6_isDoor_14 rfl 1 rfl rfl ?_
        refine g_bipush (v := (10 : Int32)) X dX6_isDoor_15 (by decide) rfl ?_
        refine g_icmp_ge X dX6_isDoor_17 24 (by decide) rfl (fun h17 => ?_) (fun h17 => ?_)
        · have i17 : (10 : Int) ≤ _ := ic_le h17
          refine g_iconst (v := (0 : Int32)) X dX6_isDoor_24 (by decide) rfl ?_
          refine g_retR X hr (by first | rfl | exact b2i_nar _) dX6_isDoor_25 ?_
          first
          | exact ret_1 (Bool.and_eq_true_iff.mpr ⟨decide_eq_true ⟨by omega, by omega⟩, decide_eq_true ⟨by omega, by omega⟩⟩)
          | exact ret_0 (Bool.eq_false_iff.mpr (fun z => by have h1 := of_decide_eq_true (Bool.and_eq_true_iff.mp z).1; have h2 := of_decide_eq_true (Bool.and_eq_true_iff.mp z).2; omega))
        · have i17 : _ < (10 : Int) := ic_nle h17
          refine g_iconst (v := (1 : Int32)) X dX6_isDoor_20 (by decide) rfl ?_
          refine g_goto X dX6_isDoor_21 25 (by decide) ?_
          refine g_retR X hr (by first | rfl | exact b2i_nar _) dX6_isDoor_25 ?_
          first
          | exact ret_1 (Bool.and_eq_true_iff.mpr ⟨decide_eq_true ⟨by omega, by omega⟩, decide_eq_true ⟨by omega, by omega⟩⟩)
          | exact ret_0 (Bool.eq_false_iff.mpr (fun z => by have h1 := of_decide_eq_true (Bool.and_eq_true_iff.mp z).1; have h2 := of_decide_eq_true (Bool.and_eq_true_iff.mp z).2; omega))

set_option maxHeartbeats 4000000 in
set_option maxRecDepth 100000 in
theorem c_X6_isIn (l : Launch) (D : DT) (M k : Nat) (hM : M < 2 ^ 64) (hk : k < 64) : MR l yX6_isIn wsX6_isIn 0 0 D [.long (lN M), .int (nI k)] [] (fun v => v = some (.int (b2i (M.testBit k)))) := by
  refine MR.of (cc := cX6_isIn) (maxL := 3) (ret := (some .boolean)) (lv := [(0, .long (lN M)), (2, .int (nI k))]) (by decide +kernel) rfl (Nat.le_of_ble_eq_true rfl) rfl ?_
  intro p e s m below meth c A X hr hmn
  refine g_lload_n X dX6_isIn_0 rfl 0 rfl rfl ?_
  refine g_iload_n X dX6_isIn_1 rfl 1 rfl rfl ?_
  refine g_lushr X dX6_isIn_2 rfl rfl ?_
  refine g_lconst (v := (1 : Int64)) X dX6_isIn_3 (by decide) rfl ?_
  refine g_land X dX6_isIn_4 rfl ?_
  refine g_topl (wb_bit hM hk) ?_
  refine g_lconst (v := (0 : Int64)) X dX6_isIn_5 (by decide) rfl ?_
  refine g_lcmp X dX6_isIn_6 rfl ?_
  refine g_if_eq X dX6_isIn_7 14 (by decide) rfl (fun h7 => ?_) (fun h7 => ?_)
  · refine g_iconst (v := (0 : Int32)) X dX6_isIn_14 (by decide) rfl ?_
    refine g_retR X hr (by first | rfl | exact b2i_nar _) dX6_isIn_15 ?_
    first | exact ret_1 (tb_1 (fun z => h7 ((lg_0 (by omega)).mpr z))) | exact ret_0 (tb_0 ((lg_0 (by omega)).mp h7))
  · refine g_iconst (v := (1 : Int32)) X dX6_isIn_10 (by decide) rfl ?_
    refine g_goto X dX6_isIn_11 15 (by decide) ?_
    refine g_retR X hr (by first | rfl | exact b2i_nar _) dX6_isIn_15 ?_
    first | exact ret_1 (tb_1 (fun z => h7 ((lg_0 (by omega)).mpr z))) | exact ret_0 (tb_0 ((lg_0 (by omega)).mp h7))

set_option maxHeartbeats 4000000 in
set_option maxRecDepth 100000 in
theorem c_J13_bitCount_95d88 (l : Launch) (D : DT) (M : Nat) (hM : M < 2 ^ 64) : MR l yJ13_bitCount_95d88 wsJ13_bitCount_95d88 0 0 D [.long (lN M)] [] (fun v => v = some (.int (nI (cnI M.testBit 64)))) := by
  refine MR.of (cc := cJ13_bitCount_95d88) (maxL := 2) (ret := (some .int)) (lv := [(0, .long (lN M))]) (by decide +kernel) rfl (Nat.le_of_ble_eq_true rfl) rfl ?_
  intro p e s m below meth c A X hr hmn
  obtain ⟨hb1, hb2⟩ := bc_end hM
  obtain ⟨hb3, hb4⟩ := bcS_end M
  refine g_lload_n X dJ13_bitCount_95d88_0 rfl 0 rfl rfl ?_
  refine g_lload_n X dJ13_bitCount_95d88_1 rfl 0 rfl rfl ?_
  refine g_iconst (v := (1 : Int32)) X dJ13_bitCount_95d88_2 (by decide) rfl ?_
  refine g_lushr X dJ13_bitCount_95d88_3 rfl rfl ?_
  refine g_ldc2 X dJ13_bitCount_95d88_4 (List.mem_of_getElem? (i := 1) rfl) rfl ?_
  refine g_land X dJ13_bitCount_95d88_7 rfl ?_
  refine g_lsub X dJ13_bitCount_95d88_8 rfl ?_
  refine g_topl (bc_1 hM) ?_
  refine g_lstore_n X [(0, _)] dJ13_bitCount_95d88_9 rfl (by decide) rfl rfl ?_
  refine g_lload_n X dJ13_bitCount_95d88_10 rfl 0 rfl rfl ?_
  refine g_ldc2 X dJ13_bitCount_95d88_11 (List.mem_of_getElem? (i := 2) rfl) rfl ?_
  refine g_land X dJ13_bitCount_95d88_14 rfl ?_
  refine g_lload_n X dJ13_bitCount_95d88_15 rfl 0 rfl rfl ?_
  refine g_iconst (v := (2 : Int32)) X dJ13_bitCount_95d88_16 (by decide) rfl ?_
  refine g_lushr X dJ13_bitCount_95d88_17 rfl rfl ?_
  refine g_ldc2 X dJ13_bitCount_95d88_18 (List.mem_of_getElem? (i := 2) rfl) rfl ?_
  refine g_land X dJ13_bitCount_95d88_21 rfl ?_
  refine g_ladd X dJ13_bitCount_95d88_22 rfl ?_
  refine g_topl (bc_2 (bcY_lt hM)) ?_
  refine g_lstore_n X [(0, _)] dJ13_bitCount_95d88_23 rfl (by decide) rfl rfl ?_
  refine g_lload_n X dJ13_bitCount_95d88_24 rfl 0 rfl rfl ?_
  refine g_lload_n X dJ13_bitCount_95d88_25 rfl 0 rfl rfl ?_
  refine g_iconst (v := (4 : Int32)) X dJ13_bitCount_95d88_26 (by decide) rfl ?_
  refine g_lushr X dJ13_bitCount_95d88_27 rfl rfl ?_
  refine g_ladd X dJ13_bitCount_95d88_28 rfl ?_
  refine g_ldc2 X dJ13_bitCount_95d88_29 (List.mem_of_getElem? (i := 3) rfl) rfl ?_
  refine g_land X dJ13_bitCount_95d88_32 rfl ?_
  refine g_topl (bc_3 bcZ_lt) ?_
  rw [hb1]
  refine g_lstore_n X [(0, _)] dJ13_bitCount_95d88_33 rfl (by decide) rfl rfl ?_
  refine g_lload_n X dJ13_bitCount_95d88_34 rfl 0 rfl rfl ?_
  refine g_lload_n X dJ13_bitCount_95d88_35 rfl 0 rfl rfl ?_
  refine g_bipush (v := (8 : Int32)) X dJ13_bitCount_95d88_36 (by decide) rfl ?_
  refine g_lushr X dJ13_bitCount_95d88_38 rfl rfl ?_
  refine g_ladd X dJ13_bitCount_95d88_39 rfl ?_
  refine g_topl (bc_4 (k := 8) (by omega) (by omega)) ?_
  refine g_lstore_n X [(0, _)] dJ13_bitCount_95d88_40 rfl (by decide) rfl rfl ?_
  refine g_lload_n X dJ13_bitCount_95d88_41 rfl 0 rfl rfl ?_
  refine g_lload_n X dJ13_bitCount_95d88_42 rfl 0 rfl rfl ?_
  refine g_bipush (v := (16 : Int32)) X dJ13_bitCount_95d88_43 (by decide) rfl ?_
  refine g_lushr X dJ13_bitCount_95d88_45 rfl rfl ?_
  refine g_ladd X dJ13_bitCount_95d88_46 rfl ?_
  refine g_topl (bc_4 (k := 16) (by omega) (by omega)) ?_
  refine g_lstore_n X [(0, _)] dJ13_bitCount_95d88_47 rfl (by decide) rfl rfl ?_
  refine g_lload_n X dJ13_bitCount_95d88_48 rfl 0 rfl rfl ?_
  refine g_lload_n X dJ13_bitCount_95d88_49 rfl 0 rfl rfl ?_
  refine g_bipush (v := (32 : Int32)) X dJ13_bitCount_95d88_50 (by decide) rfl ?_
  refine g_lushr X dJ13_bitCount_95d88_52 rfl rfl ?_
  refine g_ladd X dJ13_bitCount_95d88_53 rfl ?_
  refine g_topl (bc_4 (k := 32) (by omega) (by omega)) ?_
  refine g_lstore_n X [(0, _)] dJ13_bitCount_95d88_54 rfl (by decide) rfl rfl ?_
  refine g_lload_n X dJ13_bitCount_95d88_55 rfl 0 rfl rfl ?_
  refine g_l2i X dJ13_bitCount_95d88_56 rfl rfl ?_
  refine g_topi (lN_i _) ?_
  refine g_bipush (v := (127 : Int32)) X dJ13_bitCount_95d88_57 (by decide) rfl ?_
  refine g_iand X dJ13_bitCount_95d88_59 rfl ?_
  refine g_topi (nI_127 _) ?_
  rw [hb4, hb2]
  refine g_retR X hr (by first | rfl | exact b2i_nar _) dJ13_bitCount_95d88_60 ?_
  rfl

set_option maxHeartbeats 4000000 in
set_option maxRecDepth 100000 in
theorem c_X4_has (l : Launch) (D : DT) (a : Nat → Nat) (f : Nat → Int32) (na : Nat → Nat → Int32) (w : Nat → Int32) (mk : Nat) (hmk : f 76 = nI mk) (h40 : mk ≤ 40) (x : Int32) : MR l yX4_has wsX4_has 0 0 D [.ref (a 5), .int x] (wHW D a f na w) (fun v => v = some (.int (b2i (rng mk x)))) := by
  have em : (nI mk).toInt = (mk : Int) := nI_toInt (by omega)
  refine MR.of (cc := cX4_has) (maxL := 2) (ret := (some .boolean)) (lv := [(0, .ref (a 5)), (1, .int x)]) (by decide +kernel) rfl (Nat.le_of_ble_eq_true rfl) rfl ?_
  intro p e s m below meth c A X hr hmn
  have hinX40 : ∀ w ∈ wsX40, w ∈ wsX4_has := fun w h => List.mem_cons_of_mem _ (List.mem_append_right _ h)
  have hl40 := List.mem_of_getElem? (l := wsX4_has) (i := 1) rfl
  refine g_iload_n X dX4_has_0 rfl 1 rfl rfl ?_
  refine g_if_lt X dX4_has_1 16 (by decide) rfl (fun h1 => ?_) (fun h1 => ?_)
  · have i1 : _ < (0 : Int) := ic_lt h1
    refine g_iconst (v := (0 : Int32)) X dX4_has_16 (by decide) rfl ?_
    refine g_retR X hr (by first | rfl | exact b2i_nar _) dX4_has_17 ?_
    unfold rng
    first | exact ret_t ⟨by omega, by omega⟩ | exact ret_f (by omega)
  · have i1 : (0 : Int) ≤ _ := ic_nlt h1
    refine g_iload_n X dX4_has_4 rfl 1 rfl rfl ?_
    refine g_aload_n X dX4_has_5 rfl 0 rfl rfl ?_
    refine gH_get_Stamps_made X dX4_has_6 hinX40 hl40 rfl ?_
    refine g_topi (show _ = nI (mk) from hmk) ?_
    refine g_icmp_ge X dX4_has_9 16 (by decide) rfl (fun h9 => ?_) (fun h9 => ?_)
    · have i9 : _ ≤ _ := ic_le h9
      refine g_iconst (v := (0 : Int32)) X dX4_has_16 (by decide) rfl ?_
      refine g_retR X hr (by first | rfl | exact b2i_nar _) dX4_has_17 ?_
      unfold rng
      first | exact ret_t ⟨by omega, by omega⟩ | exact ret_f (by omega)
    · have i9 : _ < _ := ic_nle h9
      refine g_iconst (v := (1 : Int32)) X dX4_has_12 (by decide) rfl ?_
      refine g_goto X dX4_has_13 17 (by decide) ?_
      refine g_retR X hr (by first | rfl | exact b2i_nar _) dX4_has_17 ?_
      unfold rng
      first | exact ret_t ⟨by omega, by omega⟩ | exact ret_f (by omega)

set_option maxHeartbeats 4000000 in
set_option maxRecDepth 100000 in
theorem c_X4_areFull (l : Launch) (D : DT) (a : Nat → Nat) (f : Nat → Int32) (na : Nat → Nat → Int32) (w : Nat → Int32) (mk : Nat) (hmk : f 76 = nI mk) (h40 : mk ≤ 40) : MR l yX4_areFull wsX4_areFull 0 0 D [.ref (a 5)] (wHW D a f na w) (fun v => v = some (.int (b2i (decide (40 ≤ mk))))) := by
  refine MR.of (cc := cX4_areFull) (maxL := 1) (ret := (some .boolean)) (lv := [(0, .ref (a 5))]) (by decide +kernel) rfl (Nat.le_of_ble_eq_true rfl) rfl ?_
  intro p e s m below meth c A X hr hmn
  have hinX40 : ∀ w ∈ wsX40, w ∈ wsX4_areFull := fun w h => List.mem_cons_of_mem _ (List.mem_append_right _ h)
  have hl40 := List.mem_of_getElem? (l := wsX4_areFull) (i := 1) rfl
  refine g_aload_n X dX4_areFull_0 rfl 0 rfl rfl ?_
  refine gH_get_Stamps_made X dX4_areFull_1 hinX40 hl40 rfl ?_
  refine g_topi (show _ = nI (mk) from hmk) ?_
  refine g_bipush (v := (40 : Int32)) X dX4_areFull_4 (by decide) rfl ?_
  refine g_icmp_lt X dX4_areFull_6 13 (by decide) rfl (fun h6 => ?_) (fun h6 => ?_)
  · have i6 := nj_lt (a := mk) (b := 40) (by omega) (by omega) h6
    refine g_iconst (v := (0 : Int32)) X dX4_areFull_13 (by decide) rfl ?_
    refine g_retR X hr (by first | rfl | exact b2i_nar _) dX4_areFull_14 ?_
    first | exact ret_1 (decide_eq_true (by omega)) | exact ret_0 (decide_eq_false (by omega))
  · have i6 := nj_nlt (a := mk) (b := 40) (by omega) (by omega) h6
    refine g_iconst (v := (1 : Int32)) X dX4_areFull_9 (by decide) rfl ?_
    refine g_goto X dX4_areFull_10 14 (by decide) ?_
    refine g_retR X hr (by first | rfl | exact b2i_nar _) dX4_areFull_14 ?_
    first | exact ret_1 (decide_eq_true (by omega)) | exact ret_0 (decide_eq_false (by omega))

set_option maxHeartbeats 4000000 in
set_option maxRecDepth 100000 in
theorem c_X4_add (l : Launch) (D : DT) (a : Nat → Nat) (f : Nat → Int32) (na : Nat → Nat → Int32) (w : Nat → Int32) (mk : Nat) (hmk : f 76 = nI mk) (h40 : mk ≤ 40) (hz : ZF f mk) (gv hd pg rt ro : Int32) (b : Bool) : MW l yX4_add wsX4_add 1 20 0 0 D [.ref (a 5), .int gv, .int hd, .int pg, .int rt, .int ro, .int (b2i b)] (wHW D a f na w) (fun v w2 => if mk = 40 then v = some (.int (-4)) ∧ w2 = (wHW D a f na w) else v = some (.int (nI mk)) ∧ w2 = (wHW D a (mkF f mk gv hd pg rt ro (b2i b)) na w)) := by
  refine MW.of (cc := cX4_add) (maxL := 8) (ret := (some .int)) (lv := [(0, .ref (a 5)), (1, .int gv), (2, .int hd), (3, .int pg), (4, .int rt), (5, .int ro), (6, .int (b2i b))]) (by decide +kernel) rfl (Nat.le_of_ble_eq_true rfl) rfl ?_
  intro p e s m below meth c A hAe hAg X hr hmn
  have hinX40 : ∀ w ∈ wsX40, w ∈ wsX4_add := fun w h => List.mem_cons_of_mem _ (List.mem_append_right _ h)
  have hl40 := List.mem_of_getElem? (l := wsX4_add) (i := 1) rfl
  have hl15 := List.mem_of_getElem? (l := wsX4_add) (i := 2) rfl
  have hl18 := List.mem_of_getElem? (l := wsX4_add) (i := 3) rfl
  have hl9 := List.mem_of_getElem? (l := wsX4_add) (i := 4) rfl
  have hl21 := List.mem_of_getElem? (l := wsX4_add) (i := 5) rfl
  have hl24 := List.mem_of_getElem? (l := wsX4_add) (i := 6) rfl
  have hl33 := List.mem_of_getElem? (l := wsX4_add) (i := 7) rfl
  refine g_aload_n X dX4_add_0 rfl 0 rfl rfl ?_
  refine g_callVRsq (n := 0) (As := []) (rest := []) X (c_X4_areFull l D _ _ _ _ mk hmk h40) gX4_add_X4_areFull rfl (by decide +kernel) ⟨Nat.le_of_ble_eq_true rfl, Nat.le_of_ble_eq_true rfl⟩ 5 rfl rfl  rfl rfl (Nat.le_of_ble_eq_true rfl) dX4_add_1 ⟨Nat.le_of_ble_eq_true rfl, Nat.le_of_ble_eq_true rfl⟩ rfl (fun v hv => ?_)
  obtain rfl := hv
  refine g_st (st' := [_]) rfl ?_
  refine g_if_eq X dX4_add_4 10 (by decide) rfl (fun h4 => ?_) (fun h4 => ?_)
  · replace h4 := b2i_0 h4
    have hf : ¬ 40 ≤ mk := of_decide_eq_false h4
    refine g_aload_n X dX4_add_10 rfl 0 rfl rfl ?_
    refine gH_get_Stamps_made X dX4_add_11 hinX40 hl40 rfl ?_
    refine g_topi (show _ = nI (mk) from hmk) ?_
    refine g_istore X [(7, _), (0, _), (1, _), (2, _), (3, _), (4, _), (5, _), (6, _)] dX4_add_14 (by decide) rfl rfl ?_
    obtain ⟨z5, z6⟩ := hz mk (Nat.le_refl _) (by omega)
    refine g_aload_n X dX4_add_16 rfl 1 rfl rfl ?_
    refine gH_get_Stamps_giver X dX4_add_17 hinX40 hl15 rfl ?_
    refine g_iload X dX4_add_20 0 rfl rfl ?_
    refine g_iload_n X dX4_add_22 rfl 2 rfl rfl ?_
    refine gS_st_giver X rfl dX4_add_23 (by first | rfl | assumption) (by omega) rfl ?_
    refine g_aload_n X dX4_add_24 rfl 1 rfl rfl ?_
    refine gH_get_Stamps_holder X dX4_add_25 hinX40 hl18 rfl ?_
    refine g_iload X dX4_add_28 0 rfl rfl ?_
    refine g_iload_n X dX4_add_30 rfl 3 rfl rfl ?_
    refine gS_st_holder X rfl dX4_add_31 (by first | rfl | assumption) (by omega) rfl ?_
    refine g_aload_n X dX4_add_32 rfl 1 rfl rfl ?_
    refine gH_get_Stamps_page X dX4_add_33 hinX40 hl9 rfl ?_
    refine g_iload X dX4_add_36 0 rfl rfl ?_
    refine g_iload_n X dX4_add_38 rfl 4 rfl rfl ?_
    refine gS_st_page X rfl dX4_add_39 (by first | rfl | assumption) (by omega) rfl ?_
    refine g_aload_n X dX4_add_40 rfl 1 rfl rfl ?_
    refine gH_get_Stamps_rights X dX4_add_41 hinX40 hl21 rfl ?_
    refine g_iload X dX4_add_44 0 rfl rfl ?_
    refine g_iload X dX4_add_46 5 rfl rfl ?_
    refine gS_st_rights X rfl dX4_add_48 (by first | rfl | assumption) (by omega) rfl ?_
    refine g_aload_n X dX4_add_49 rfl 1 rfl rfl ?_
    refine gH_get_Stamps_root X dX4_add_50 hinX40 hl24 rfl ?_
    refine g_iload X dX4_add_53 0 rfl rfl ?_
    refine g_iload X dX4_add_55 6 rfl rfl ?_
    refine gS_st_root X rfl dX4_add_57 (by first | rfl | assumption) (by omega) rfl ?_
    refine g_iload X dX4_add_58 7 rfl rfl ?_
    refine g_if_eq X dX4_add_60 76 (by decide) rfl (fun h60 => ?_) (fun h60 => ?_)
    · replace h60 := b2i_0 h60
      refine g_aload_n X dX4_add_76 rfl 1 rfl rfl ?_
      refine g_dup X dX4_add_77 rfl rfl ?_
      refine gH_get_Stamps_made X dX4_add_78 hinX40 hl40 rfl ?_
      refine g_topi (show _ = nI (mk) from (by first | (rw [up_n _ _ (by omega), up_n _ _ (by omega), up_n _ _ (by omega), up_n _ _ (by omega), up_n _ _ (by omega), up_n _ _ (by omega)]; exact hmk) | (rw [up_n _ _ (by omega), up_n _ _ (by omega), up_n _ _ (by omega), up_n _ _ (by omega), up_n _ _ (by omega)]; exact hmk))) ?_
      refine g_iconst (v := (1 : Int32)) X dX4_add_81 (by decide) rfl ?_
      refine g_iadd X dX4_add_82 rfl ?_
      refine g_topi (y := nI (mk + 1)) (nI_add (mk) (1)) ?_
      refine gH_put_Stamps_made X rfl dX4_add_83 hinX40 hl40 rfl ?_
      refine g_iload X dX4_add_86 0 rfl rfl ?_
      refine g_retW X hr (by first | rfl | exact b2i_nar _) dX4_add_88 hAe ?_
      rw [if_neg (by omega)]
      first
      | exact ⟨rfl, wHW_f (by rw [h60]; exact addF_0 z5 z6)⟩
      | exact ⟨rfl, wHW_f (by rw [h60]; exact addF_1 z6)⟩
    · replace h60 := b2i_n0 h60
      refine g_aload_n X dX4_add_63 rfl 1 rfl rfl ?_
      refine g_dup X dX4_add_64 rfl rfl ?_
      refine gH_get_Stamps_forged X dX4_add_65 hinX40 hl33 rfl ?_
      refine g_lconst (v := (1 : Int64)) X dX4_add_68 (by decide) rfl ?_
      refine g_iload X dX4_add_69 0 rfl rfl ?_
      refine g_lshl X dX4_add_71 rfl rfl ?_
      refine g_lor X dX4_add_72 rfl ?_
      refine g_topl (lmsk (mkB_lt _ _) (by omega)) ?_
      refine gH_put_Stamps_forged (k := mk) X rfl dX4_add_73 hinX40 hl33 rfl (by omega) rfl ?_
      refine g_aload_n X dX4_add_76 rfl 1 rfl rfl ?_
      refine g_dup X dX4_add_77 rfl rfl ?_
      refine gH_get_Stamps_made X dX4_add_78 hinX40 hl40 rfl ?_
      refine g_topi (show _ = nI (mk) from (by first | (rw [up_n _ _ (by omega), up_n _ _ (by omega), up_n _ _ (by omega), up_n _ _ (by omega), up_n _ _ (by omega), up_n _ _ (by omega)]; exact hmk) | (rw [up_n _ _ (by omega), up_n _ _ (by omega), up_n _ _ (by omega), up_n _ _ (by omega), up_n _ _ (by omega)]; exact hmk))) ?_
      refine g_iconst (v := (1 : Int32)) X dX4_add_81 (by decide) rfl ?_
      refine g_iadd X dX4_add_82 rfl ?_
      refine g_topi (y := nI (mk + 1)) (nI_add (mk) (1)) ?_
      refine gH_put_Stamps_made X rfl dX4_add_83 hinX40 hl40 rfl ?_
      refine g_iload X dX4_add_86 0 rfl rfl ?_
      refine g_retW X hr (by first | rfl | exact b2i_nar _) dX4_add_88 hAe ?_
      rw [if_neg (by omega)]
      first
      | exact ⟨rfl, wHW_f (by rw [h60]; exact addF_0 z5 z6)⟩
      | exact ⟨rfl, wHW_f (by rw [h60]; exact addF_1 z6)⟩
  · replace h4 := b2i_n0 h4
    have hf : 40 ≤ mk := of_decide_eq_true h4
    refine g_bipush (v := ((-4) : Int32)) X dX4_add_7 (by decide) rfl ?_
    refine g_retW X hr (by first | rfl | exact b2i_nar _) dX4_add_9 hAe ?_
    rw [if_pos (by omega)]
    exact ⟨rfl, rfl⟩

set_option maxHeartbeats 4000000 in
set_option maxRecDepth 100000 in
theorem c_X4_chainLength (l : Launch) (D : DT) (a : Nat → Nat) (f : Nat → Int32) (na : Nat → Nat → Int32) (w : Nat → Int32) (mk : Nat) (hmk : f 76 = nI mk) (h40 : mk ≤ 40) (hst : ∀ s, s < mk → stOK f s) (q : Nat) (hq : q < mk) : MR l yX4_chainLength wsX4_chainLength 1 21 D [.ref (a 5), .int (nI q)] (wHW D a f na w) (fun v => v = some (.int (nI (chN f (nI q))))) := by
  refine MR.of (cc := cX4_chainLength) (maxL := 4) (ret := (some .int)) (lv := [(0, .ref (a 5)), (1, .int (nI q))]) (by decide +kernel) rfl (Nat.le_of_ble_eq_true rfl) rfl ?_
  intro p e s m below meth c A X hr hmn
  have hinX40 : ∀ w ∈ wsX40, w ∈ wsX4_chainLength := fun w h => List.mem_cons_of_mem _ (List.mem_append_right _ h)
  have hl24 := List.mem_of_getElem? (l := wsX4_chainLength) (i := 1) rfl
  refine g_iconst (v := (0 : Int32)) X dX4_chainLength_0 (by decide) rfl ?_
  refine g_istore_n X [(2, _), (0, _), (1, _)] dX4_chainLength_1 rfl (by decide) rfl rfl ?_
  refine g_iload_n X dX4_chainLength_2 rfl 2 rfl rfl ?_
  refine g_istore_n X [(3, _), (2, _), (0, _), (1, _)] dX4_chainLength_3 rfl (by decide) rfl rfl ?_
  have L4 : ∀ (k i : Nat) (x : Int32) (hk : i + k = 40) (hx : x = -6 ∨ ∃ r : Nat, r < k ∧ r < mk ∧ x = nI r) (hR : chI f (k + 1) x i = chN f (nI q)), GG p l e (wRoom 1 21 0 0) s m ([.ref (a 5), .int (nI q)] : List Value).toArray below meth c D A 4 true 0 0 (MQ below (roQ (fun v => v = some (.int (nI (chN f (nI q)))))) ([.ref (a 5), .int (nI q)] : List Value).toArray s 0 0 (fun _ => False)) (wHW D a f na w) 4 [(3, .int x), (2, .int (nI i)), (0, .ref (a 5)), (1, .int (nI q))] [] := by
    intro k
    induction k using Nat.strongRecOn with
    | _ k ih =>
    intro i x hk hx hR
    refine g_iload_n X dX4_chainLength_4 rfl 1 rfl rfl ?_
    refine g_bipush (v := (40 : Int32)) X dX4_chainLength_5 (by decide) rfl ?_
    refine g_icmp_ge X dX4_chainLength_7 31 (by decide) rfl (fun h7 => ?_) (fun h7 => ?_)
    · have i7 := nj_le (a := 40) (b := i) (by omega) (by omega) h7
      have hN : nI i = nI (chN f (nI q)) := by
        rw [← hR]
        rcases hx with z | ⟨r, hr1, hr2, z⟩
        · rw [z, chI, if_pos neg6]
        · first
          | (exfalso; omega)
          | (rw [z, rng_nI' hr2 (by omega)] at h15; exact absurd h15 (by decide))
      refine g_iload_n X dX4_chainLength_31 rfl 1 rfl rfl ?_
      refine g_retR X hr (by first | rfl | exact b2i_nar _) dX4_chainLength_32 ?_
      exact congrArg (fun x => some (Value.int x)) hN
    · have i7 := nj_nle (a := 40) (b := i) (by omega) (by omega) h7
      refine g_aload_n X dX4_chainLength_10 rfl 2 rfl rfl ?_
      refine g_iload_n X dX4_chainLength_11 rfl 0 rfl rfl ?_
      refine g_callVRsq (n := 1) (As := [_]) (rest := []) X (c_X4_has l D _ _ _ _ mk hmk h40 _) gX4_chainLength_X4_has rfl (by decide +kernel) ⟨Nat.le_of_ble_eq_true rfl, Nat.le_of_ble_eq_true rfl⟩ 5 rfl rfl  rfl rfl (Nat.le_of_ble_eq_true rfl) dX4_chainLength_12 ⟨Nat.le_of_ble_eq_true rfl, Nat.le_of_ble_eq_true rfl⟩ rfl (fun v hv => ?_)
      obtain rfl := hv
      refine g_st (st' := [_]) rfl ?_
      refine g_if_eq X dX4_chainLength_15 31 (by decide) rfl (fun h15 => ?_) (fun h15 => ?_)
      · replace h15 := b2i_0 h15
        have hN : nI i = nI (chN f (nI q)) := by
          rw [← hR]
          rcases hx with z | ⟨r, hr1, hr2, z⟩
          · rw [z, chI, if_pos neg6]
          · first
            | (exfalso; omega)
            | (rw [z, rng_nI' hr2 (by omega)] at h15; exact absurd h15 (by decide))
        refine g_iload_n X dX4_chainLength_31 rfl 1 rfl rfl ?_
        refine g_retR X hr (by first | rfl | exact b2i_nar _) dX4_chainLength_32 ?_
        exact congrArg (fun x => some (Value.int x)) hN
      · replace h15 := b2i_n0 h15
        obtain ⟨r, hrk, hrm, rfl⟩ := ch_x hx h15
        obtain ⟨-, -, -, -, hrt, -, -⟩ := id (hst r hrm)
        refine g_iinc (v := nI (i + 1)) X [(2, _), (3, _), (0, _), (1, _)] dX4_chainLength_18 1 rfl (nI_add (i) 1) (by decide) rfl rfl ?_
        refine g_aload_n X dX4_chainLength_21 rfl 2 rfl rfl ?_
        refine gH_get_Stamps_root X dX4_chainLength_22 hinX40 hl24 rfl ?_
        refine g_iload_n X dX4_chainLength_25 rfl 1 rfl rfl ?_
        refine gS_ld_root X dX4_chainLength_26 (by first | rfl | assumption) (by omega) rfl ?_
        refine g_istore_n X [(3, _), (2, _), (0, _), (1, _)] dX4_chainLength_27 rfl (by decide) rfl rfl ?_
        refine g_goto X dX4_chainLength_28 4 (by decide) ?_
        refine ih (k - 1) (by omega) (i + 1) _ (by omega) ?_ ?_
        · rcases hrt with z | ⟨r2, hr2, z⟩
          · exact Or.inl z
          · exact Or.inr ⟨r2, by omega, by omega, z⟩
        · rw [← hR, show k - 1 + 1 = k from by omega, chI, if_neg (nI_pos (by omega)), nI_clamp (by omega)]
  exact L4 40 0 (nI q) rfl (Or.inr ⟨q, by omega, hq, rfl⟩) rfl

set_option maxHeartbeats 4000000 in
set_option maxRecDepth 100000 in
theorem c_X4_ofOnePage (l : Launch) (D : DT) (a : Nat → Nat) (f : Nat → Int32) (na : Nat → Nat → Int32) (w : Nat → Int32) (mk : Nat) (hmk : f 76 = nI mk) (h40 : mk ≤ 40) (x : Int32) : MR l yX4_ofOnePage wsX4_ofOnePage 0 0 D [.ref (a 5), .int x] (wHW D a f na w) (fun v => v = some (.long (lN (mskN (fun s => decide (ofM f s 0 = x)) mk)))) := by
  refine MR.of (cc := cX4_ofOnePage) (maxL := 5) (ret := (some .long)) (lv := [(0, .ref (a 5)), (1, .int x)]) (by decide +kernel) rfl (Nat.le_of_ble_eq_true rfl) rfl ?_
  intro p e s m below meth c A X hr hmn
  have hinX40 : ∀ w ∈ wsX40, w ∈ wsX4_ofOnePage := fun w h => List.mem_cons_of_mem _ (List.mem_append_right _ h)
  have hl40 := List.mem_of_getElem? (l := wsX4_ofOnePage) (i := 1) rfl
  have hl9 := List.mem_of_getElem? (l := wsX4_ofOnePage) (i := 2) rfl
  refine g_lconst (v := (0 : Int64)) X dX4_ofOnePage_0 (by decide) rfl ?_
  refine g_lstore_n X [(2, _), (0, _), (1, _)] dX4_ofOnePage_1 rfl (by decide) rfl rfl ?_
  refine g_iconst (v := (0 : Int32)) X dX4_ofOnePage_2 (by decide) rfl ?_
  refine g_istore X [(4, _), (2, _), (0, _), (1, _)] dX4_ofOnePage_3 (by decide) rfl rfl ?_
  have L5 : ∀ (n i M : Nat) (hi : i ≤ mk) (hn : mk - i = n) (hM : M = mskN (fun s => decide (ofM f s 0 = x)) i), GG p l e (wRoom 0 0 0 0) s m ([.ref (a 5), .int x] : List Value).toArray below meth c D A 5 true 0 0 (MQ below (roQ (fun v => v = some (.long (lN (mskN (fun s => decide (ofM f s 0 = x)) mk))))) ([.ref (a 5), .int x] : List Value).toArray s 0 0 (fun _ => False)) (wHW D a f na w) 5 [(4, .int (nI i)), (2, .long (lN M)), (0, .ref (a 5)), (1, .int x)] [] := by
    intro n
    induction n using Nat.strongRecOn with
    | _ n ih =>
    intro i M hi hn hM
    have hMl : M < 2 ^ 64 := by rw [hM]; exact msk64 (by omega)
    refine g_iload X dX4_ofOnePage_5 0 rfl rfl ?_
    refine g_aload_n X dX4_ofOnePage_7 rfl 2 rfl rfl ?_
    refine gH_get_Stamps_made X dX4_ofOnePage_8 hinX40 hl40 rfl ?_
    refine g_topi (show _ = nI (mk) from hmk) ?_
    refine g_icmp_ge X dX4_ofOnePage_11 38 (by decide) rfl (fun h11 => ?_) (fun h11 => ?_)
    · have i11 := nj_le (a := mk) (b := i) (by omega) (by omega) h11
      have hii : i = mk := by omega
      subst hii
      subst hM
      refine g_lload_n X dX4_ofOnePage_38 rfl 1 rfl rfl ?_
      refine g_lretR X hr dX4_ofOnePage_39 ?_
      rfl
    · have i11 := nj_nle (a := mk) (b := i) (by omega) (by omega) h11
      refine g_aload_n X dX4_ofOnePage_14 rfl 2 rfl rfl ?_
      refine gH_get_Stamps_page X dX4_ofOnePage_15 hinX40 hl9 rfl ?_
      refine g_iload X dX4_ofOnePage_18 0 rfl rfl ?_
      refine gS_ld_page X dX4_ofOnePage_20 (by first | rfl | assumption) (by omega) rfl ?_
      refine g_iload_n X dX4_ofOnePage_21 rfl 3 rfl rfl ?_
      refine g_icmp_ne X dX4_ofOnePage_22 32 (by decide) rfl (fun h22 => ?_) (fun h22 => ?_)
      · refine g_iinc (v := nI (i + 1)) X [(4, _), (2, _), (0, _), (1, _)] dX4_ofOnePage_32 0 rfl (nI_add (i) 1) (by decide) rfl rfl ?_
        refine g_goto X dX4_ofOnePage_35 5 (by decide) ?_
        refine ih (mk - (i + 1)) (by omega) (i + 1) _ (by omega) rfl ?_
        rw [mskN, hM]
        simp [*]
      · refine g_lload_n X dX4_ofOnePage_25 rfl 1 rfl rfl ?_
        refine g_lconst (v := (1 : Int64)) X dX4_ofOnePage_26 (by decide) rfl ?_
        refine g_iload X dX4_ofOnePage_27 0 rfl rfl ?_
        refine g_lshl X dX4_ofOnePage_29 rfl rfl ?_
        refine g_lor X dX4_ofOnePage_30 rfl ?_
        refine g_topl (lmsk hMl (by omega)) ?_
        refine g_lstore_n X [(2, _), (4, _), (0, _), (1, _)] dX4_ofOnePage_31 rfl (by decide) rfl rfl ?_
        refine g_iinc (v := nI (i + 1)) X [(4, _), (2, _), (0, _), (1, _)] dX4_ofOnePage_32 1 rfl (nI_add (i) 1) (by decide) rfl rfl ?_
        refine g_goto X dX4_ofOnePage_35 5 (by decide) ?_
        refine ih (mk - (i + 1)) (by omega) (i + 1) _ (by omega) rfl ?_
        rw [mskN, hM]
        simp [*]
  exact L5 mk 0 0 (by omega) rfl rfl

set_option maxHeartbeats 4000000 in
set_option maxRecDepth 100000 in
theorem c_X4_countBelow (l : Launch) (D : DT) (a : Nat → Nat) (f : Nat → Int32) (na : Nat → Nat → Int32) (w : Nat → Int32) (mk : Nat) (hmk : f 76 = nI mk) (h40 : mk ≤ 40) (hst : ∀ s, s < mk → stOK f s) (q : Nat) (hq : q < mk) : MR l yX4_countBelow wsX4_countBelow 1 22 D [.ref (a 5), .int (nI q)] (wHW D a f na w) (fun v => v = some (.int (nI (bhN f q mk)))) := by
  refine MR.of (cc := cX4_countBelow) (maxL := 5) (ret := (some .int)) (lv := [(0, .ref (a 5)), (1, .int (nI q))]) (by decide +kernel) rfl (Nat.le_of_ble_eq_true rfl) rfl ?_
  intro p e s m below meth c A X hr hmn
  have hinX40 : ∀ w ∈ wsX40, w ∈ wsX4_countBelow := fun w h => List.mem_cons_of_mem _ (List.mem_append_right _ h)
  have hl40 := List.mem_of_getElem? (l := wsX4_countBelow) (i := 1) rfl
  have hl24 := List.mem_of_getElem? (l := wsX4_countBelow) (i := 2) rfl
  refine g_lconst (v := (1 : Int64)) X dX4_countBelow_0 (by decide) rfl ?_
  refine g_iload_n X dX4_countBelow_1 rfl 1 rfl rfl ?_
  refine g_lshl X dX4_countBelow_2 rfl rfl ?_
  refine g_topl (show (1 : Int64) <<< ((nI q).toInt64 &&& 63) = lN (2 ^ q) from lN_1shl (by omega)) ?_
  refine g_lstore_n X [(2, _), (0, _), (1, _)] dX4_countBelow_3 rfl (by decide) rfl rfl ?_
  refine g_iload_n X dX4_countBelow_4 rfl 2 rfl rfl ?_
  refine g_iconst (v := (1 : Int32)) X dX4_countBelow_5 (by decide) rfl ?_
  refine g_iadd X dX4_countBelow_6 rfl ?_
  refine g_topi (y := nI (q + 1)) (nI_add (q) (1)) ?_
  refine g_istore X [(4, _), (2, _), (0, _), (1, _)] dX4_countBelow_7 (by decide) rfl rfl ?_
  have L9 : ∀ (n i M : Nat) (hqi : q < i) (hi : i ≤ mk) (hn : mk - i = n) (hM : M = mskN (bhP f q) i), GG p l e (wRoom 1 22 0 0) s m ([.ref (a 5), .int (nI q)] : List Value).toArray below meth c D A 5 true 0 0 (MQ below (roQ (fun v => v = some (.int (nI (bhN f q mk))))) ([.ref (a 5), .int (nI q)] : List Value).toArray s 0 0 (fun _ => False)) (wHW D a f na w) 9 [(4, .int (nI i)), (2, .long (lN M)), (0, .ref (a 5)), (1, .int (nI q))] [] := by
    intro n
    induction n using Nat.strongRecOn with
    | _ n ih =>
    intro i M hqi hi hn hM
    have hMl : M < 2 ^ 64 := by rw [hM]; exact msk64 (by omega)
    refine g_iload X dX4_countBelow_9 0 rfl rfl ?_
    refine g_aload_n X dX4_countBelow_11 rfl 2 rfl rfl ?_
    refine gH_get_Stamps_made X dX4_countBelow_12 hinX40 hl40 rfl ?_
    refine g_topi (show _ = nI (mk) from hmk) ?_
    refine g_icmp_ge X dX4_countBelow_15 59 (by decide) rfl (fun h15 => ?_) (fun h15 => ?_)
    · have i15 := nj_le (a := mk) (b := i) (by omega) (by omega) h15
      have hii : i = mk := by omega
      subst hii
      refine g_lload_n X dX4_countBelow_59 rfl 1 rfl rfl ?_
      refine g_callSR (n := 1) (As := [_]) (rest := []) X (c_J13_bitCount_95d88 l D M hMl) gX4_countBelow_J13_bitCount_95d88 rfl (by decide +kernel) ⟨Nat.le_of_ble_eq_true rfl, Nat.le_of_ble_eq_true rfl⟩ [] rfl rfl rfl rfl (Nat.le_of_ble_eq_true rfl) dX4_countBelow_60 ⟨Nat.le_of_ble_eq_true rfl, Nat.le_of_ble_eq_true rfl⟩ rfl (fun v hv => ?_)
      obtain rfl := hv
      refine g_st (st' := [_]) rfl ?_
      refine g_iconst (v := (1 : Int32)) X dX4_countBelow_63 (by decide) rfl ?_
      refine g_isub X dX4_countBelow_64 rfl ?_
      refine g_topi (bh_end (f := f) hM hqi h40) ?_
      refine g_retR X hr (by first | rfl | exact b2i_nar _) dX4_countBelow_65 ?_
      rfl
    · have i15 := nj_nle (a := mk) (b := i) (by omega) (by omega) h15
      obtain ⟨-, -, -, -, hrt, -, -⟩ := id (hst i (by omega))
      refine g_aload_n X dX4_countBelow_18 rfl 2 rfl rfl ?_
      refine g_aload_n X dX4_countBelow_19 rfl 2 rfl rfl ?_
      refine gH_get_Stamps_root X dX4_countBelow_20 hinX40 hl24 rfl ?_
      refine g_iload X dX4_countBelow_23 0 rfl rfl ?_
      refine gS_ld_root X dX4_countBelow_25 (by first | rfl | assumption) (by omega) rfl ?_
      refine g_callVRsq (n := 1) (As := [_]) (rest := []) X (c_X4_has l D _ _ _ _ mk hmk h40 _) gX4_countBelow_X4_has rfl (by decide +kernel) ⟨Nat.le_of_ble_eq_true rfl, Nat.le_of_ble_eq_true rfl⟩ 5 rfl rfl  rfl rfl (Nat.le_of_ble_eq_true rfl) dX4_countBelow_26 ⟨Nat.le_of_ble_eq_true rfl, Nat.le_of_ble_eq_true rfl⟩ rfl (fun v hv => ?_)
      obtain rfl := hv
      refine g_st (st' := [_]) rfl ?_
      refine g_if_eq X dX4_countBelow_29 53 (by decide) rfl (fun h29 => ?_) (fun h29 => ?_)
      · replace h29 := b2i_0 h29
        refine g_iinc (v := nI (i + 1)) X [(4, _), (2, _), (0, _), (1, _)] dX4_countBelow_53 0 rfl (nI_add (i) 1) (by decide) rfl rfl ?_
        refine g_goto X dX4_countBelow_56 9 (by decide) ?_
        refine ih (mk - (i + 1)) (by omega) (i + 1) _ (by omega) (by omega) rfl ?_
        rw [mskN, hM]
        first
        | rw [if_pos ((bh_t hst h40 i15 hqi hr er hM).trans h43)]
        | rw [if_neg (fun z => Bool.false_ne_true (h43.symm.trans ((bh_t hst h40 i15 hqi hr er hM).symm.trans z)))]
        | rw [if_neg (fun z => Bool.false_ne_true ((bh_z h40 i15 hqi hrt h29).symm.trans z))]
      · replace h29 := b2i_n0 h29
        obtain ⟨r, hr, er⟩ := rt_has hrt h29
        refine g_lload_n X dX4_countBelow_32 rfl 1 rfl rfl ?_
        refine g_aload_n X dX4_countBelow_33 rfl 2 rfl rfl ?_
        refine gH_get_Stamps_root X dX4_countBelow_34 hinX40 hl24 rfl ?_
        refine g_iload X dX4_countBelow_37 0 rfl rfl ?_
        refine gS_ld_root X dX4_countBelow_39 (by first | rfl | assumption) (by omega) rfl ?_
        refine g_topi er ?_
        refine g_callSNR (n := 2) (As := [_, _]) (rest := []) X (c_X6_isIn l D M r hMl (by omega)) gX4_countBelow_X6_isIn_n52 (List.mem_of_getElem? (i := 9) rfl) (by decide +kernel) (List.mem_of_getElem? (i := 8) rfl) rfl (by decide +kernel) ⟨Nat.le_of_ble_eq_true rfl, Nat.le_of_ble_eq_true rfl⟩ [] rfl rfl rfl rfl (Nat.le_of_ble_eq_true rfl) dX4_countBelow_40 ⟨Nat.le_of_ble_eq_true rfl, Nat.le_of_ble_eq_true rfl⟩ rfl (fun v hv => ?_)
        obtain rfl := hv
        refine g_st (st' := [_]) rfl ?_
        refine g_if_eq X dX4_countBelow_43 53 (by decide) rfl (fun h43 => ?_) (fun h43 => ?_)
        · replace h43 := b2i_0 h43
          refine g_iinc (v := nI (i + 1)) X [(4, _), (2, _), (0, _), (1, _)] dX4_countBelow_53 0 rfl (nI_add (i) 1) (by decide) rfl rfl ?_
          refine g_goto X dX4_countBelow_56 9 (by decide) ?_
          refine ih (mk - (i + 1)) (by omega) (i + 1) _ (by omega) (by omega) rfl ?_
          rw [mskN, hM]
          first
          | rw [if_pos ((bh_t hst h40 i15 hqi hr er hM).trans h43)]
          | rw [if_neg (fun z => Bool.false_ne_true (h43.symm.trans ((bh_t hst h40 i15 hqi hr er hM).symm.trans z)))]
          | rw [if_neg (fun z => Bool.false_ne_true ((bh_z h40 i15 hqi hrt h29).symm.trans z))]
        · replace h43 := b2i_n0 h43
          refine g_lload_n X dX4_countBelow_46 rfl 1 rfl rfl ?_
          refine g_lconst (v := (1 : Int64)) X dX4_countBelow_47 (by decide) rfl ?_
          refine g_iload X dX4_countBelow_48 0 rfl rfl ?_
          refine g_lshl X dX4_countBelow_50 rfl rfl ?_
          refine g_lor X dX4_countBelow_51 rfl ?_
          refine g_topl (lmsk hMl (by omega)) ?_
          refine g_lstore_n X [(2, _), (4, _), (0, _), (1, _)] dX4_countBelow_52 rfl (by decide) rfl rfl ?_
          refine g_iinc (v := nI (i + 1)) X [(4, _), (2, _), (0, _), (1, _)] dX4_countBelow_53 1 rfl (nI_add (i) 1) (by decide) rfl rfl ?_
          refine g_goto X dX4_countBelow_56 9 (by decide) ?_
          refine ih (mk - (i + 1)) (by omega) (i + 1) _ (by omega) (by omega) rfl ?_
          rw [mskN, hM]
          first
          | rw [if_pos ((bh_t hst h40 i15 hqi hr er hM).trans h43)]
          | rw [if_neg (fun z => Bool.false_ne_true (h43.symm.trans ((bh_t hst h40 i15 hqi hr er hM).symm.trans z)))]
          | rw [if_neg (fun z => Bool.false_ne_true ((bh_z h40 i15 hqi hrt h29).symm.trans z))]
  exact L9 (mk - (q + 1)) (q + 1) (2 ^ q) (by omega) (by omega) rfl (bh_0 f (by omega))
