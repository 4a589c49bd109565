set_option maxHeartbeats 4000000 in
set_option maxRecDepth 100000 in
theorem c_J0_coder_7d493 (l : Launch) (D : DT) (i : Nat) (hi7 : i < 7) : MR l yJ0_coder_7d493 wsJ0_coder_7d493 0 0 D [.ref (D.2.2.2.2.2.1 i)] [] (fun v => v = some (.int (0))) := by
  refine MR.of (cc := cJ0_coder_7d493) (maxL := 1) (ret := (some .byte)) (lv := [(0, .ref (D.2.2.2.2.2.1 i))]) (by decide +kernel) rfl (Nat.le_of_ble_eq_true rfl) rfl ?_
  intro p e s m below meth c A X hr hmn
  have hl15 := List.mem_of_getElem? (l := wsJ0_coder_7d493) (i := 2) rfl
  refine g_gets X dJ0_coder_7d493_0 (List.mem_of_getElem? (i := 1) rfl) X.cstr rfl ?_
  refine g_if_eq X dJ0_coder_7d493_3 13 (by decide) rfl (fun h3 => absurd h3 (by decide)) (fun h3 => ?_)
  refine g_aload_n X dJ0_coder_7d493_6 rfl 0 rfl rfl ?_
  refine g_scod (i := i) X dJ0_coder_7d493_7 hl15 hi7 rfl ?_
  refine g_goto X dJ0_coder_7d493_10 14 (by decide) ?_
  refine g_retR X hr (by first | rfl | exact b2i_nar _) dJ0_coder_7d493_14 ?_
  rfl

set_option maxHeartbeats 4000000 in
set_option maxRecDepth 100000 in
theorem c_J0_length_8abf5 (l : Launch) (D : DT) (i : Nat) (hi7 : i < 7) : MR l yJ0_length_8abf5 wsJ0_length_8abf5 1 20 D [.ref (D.2.2.2.2.2.1 i)] [] (fun v => v = some (.int (nI (lenS.getD i 0)))) := by
  refine MR.of (cc := cJ0_length_8abf5) (maxL := 1) (ret := (some .int)) (lv := [(0, .ref (D.2.2.2.2.2.1 i))]) (by decide +kernel) rfl (Nat.le_of_ble_eq_true rfl) rfl ?_
  intro p e s m below meth c A X hr hmn
  have hl9 := List.mem_of_getElem? (l := wsJ0_length_8abf5) (i := 1) rfl
  refine g_aload_n X dJ0_length_8abf5_0 rfl 0 rfl rfl ?_
  refine g_sval (i := i) X dJ0_length_8abf5_1 hl9 hi7 rfl ?_
  refine g_slen (i := i) X dJ0_length_8abf5_4 hi7 rfl ?_
  refine g_aload_n X dJ0_length_8abf5_5 rfl 0 rfl rfl ?_
  refine g_callSt (n := 0) (As := []) (rest := [_]) X (c_J0_coder_7d493 l D i hi7) gJ0_length_8abf5_J0_coder_7d493 rfl (by decide +kernel) ⟨Nat.le_of_ble_eq_true rfl, Nat.le_of_ble_eq_true rfl⟩ i hi7 rfl rfl [] rfl rfl rfl rfl (Nat.le_of_ble_eq_true rfl) dJ0_length_8abf5_6 ⟨Nat.le_of_ble_eq_true rfl, Nat.le_of_ble_eq_true rfl⟩ rfl (fun v hv => ?_)
  obtain rfl := hv
  refine g_st (st' := [_, _]) rfl ?_
  refine g_ishr X dJ0_length_8abf5_9 rfl ?_
  refine g_topi (sh_shr i hi7) ?_
  refine g_retR X hr (by first | rfl | exact b2i_nar _) dJ0_length_8abf5_10 ?_
  rfl

set_option maxHeartbeats 4000000 in
set_option maxRecDepth 100000 in
theorem c_J0_isEmpty_aae02 (l : Launch) (D : DT) (i : Nat) (hi7 : i < 7) : MR l yJ0_isEmpty_aae02 wsJ0_isEmpty_aae02 0 0 D [.ref (D.2.2.2.2.2.1 i)] [] (fun v => v = some (.int (b2i (decide (lenS.getD i 0 = 0))))) := by
  have h7 := shN_lt i hi7
  refine MR.of (cc := cJ0_isEmpty_aae02) (maxL := 1) (ret := (some .boolean)) (lv := [(0, .ref (D.2.2.2.2.2.1 i))]) (by decide +kernel) rfl (Nat.le_of_ble_eq_true rfl) rfl ?_
  intro p e s m below meth c A X hr hmn
  have hl9 := List.mem_of_getElem? (l := wsJ0_isEmpty_aae02) (i := 1) rfl
  refine g_aload_n X dJ0_isEmpty_aae02_0 rfl 0 rfl rfl ?_
  refine g_sval (i := i) X dJ0_isEmpty_aae02_1 hl9 hi7 rfl ?_
  refine g_slen (i := i) X dJ0_isEmpty_aae02_4 hi7 rfl ?_
  refine g_if_ne X dJ0_isEmpty_aae02_5 12 (by decide) rfl (fun h5 => ?_) (fun h5 => ?_)
  · have i5 := nj_ne (a := (lenS.getD i 0)) (b := 0) (by omega) (by omega) h5
    refine g_iconst (v := (0 : Int32)) X dJ0_isEmpty_aae02_12 (by decide) rfl ?_
    refine g_retR X hr (by first | rfl | exact b2i_nar _) dJ0_isEmpty_aae02_13 ?_
    first | exact ret_1 (decide_eq_true (by omega)) | exact ret_0 (decide_eq_false (by omega))
  · have i5 := nj_eq (a := (lenS.getD i 0)) (b := 0) (by omega) (by omega) h5
    refine g_iconst (v := (1 : Int32)) X dJ0_isEmpty_aae02_8 (by decide) rfl ?_
    refine g_goto X dJ0_isEmpty_aae02_9 13 (by decide) ?_
    refine g_retR X hr (by first | rfl | exact b2i_nar _) dJ0_isEmpty_aae02_13 ?_
    first | exact ret_1 (decide_eq_true (by omega)) | exact ret_0 (decide_eq_false (by omega))

set_option maxHeartbeats 4000000 in
set_option maxRecDepth 100000 in
theorem c_J0_isLatin1_aae02 (l : Launch) (D : DT) (i : Nat) (hi7 : i < 7) : MR l yJ0_isLatin1_aae02 wsJ0_isLatin1_aae02 0 0 D [.ref (D.2.2.2.2.2.1 i)] [] (fun v => v = some (.int (b2i true))) := by
  refine MR.of (cc := cJ0_isLatin1_aae02) (maxL := 1) (ret := (some .boolean)) (lv := [(0, .ref (D.2.2.2.2.2.1 i))]) (by decide +kernel) rfl (Nat.le_of_ble_eq_true rfl) rfl ?_
  intro p e s m below meth c A X hr hmn
  have hl15 := List.mem_of_getElem? (l := wsJ0_isLatin1_aae02) (i := 2) rfl
  refine g_gets X dJ0_isLatin1_aae02_0 (List.mem_of_getElem? (i := 1) rfl) X.cstr rfl ?_
  refine g_if_eq X dJ0_isLatin1_aae02_3 17 (by decide) rfl (fun h3 => absurd h3 (by decide)) (fun h3 => ?_)
  refine g_aload_n X dJ0_isLatin1_aae02_6 rfl 0 rfl rfl ?_
  refine g_scod (i := i) X dJ0_isLatin1_aae02_7 hl15 hi7 rfl ?_
  refine g_if_ne X dJ0_isLatin1_aae02_10 17 (by decide) rfl (fun h10 => absurd h10 (by decide)) (fun h10 => ?_)
  refine g_iconst (v := (1 : Int32)) X dJ0_isLatin1_aae02_13 (by decide) rfl ?_
  refine g_goto X dJ0_isLatin1_aae02_14 18 (by decide) ?_
  refine g_retR X hr (by first | rfl | exact b2i_nar _) dJ0_isLatin1_aae02_18 ?_
  rfl

set_option maxHeartbeats 4000000 in
set_option maxRecDepth 100000 in
theorem c_J3_n (l : Launch) (D : DT) (k n : Nat) (hk : k < n) (hn : n < 100) : MR l yJ3_checkIndex_8e157 wsJ3_checkIndex_8e157 1 30 D [.int (nI k), .int (nI n), .null] [] (fun v => v = some (.int (nI k))) := by
  refine MR.of (cc := cJ3_checkIndex_8e157) (maxL := 3) (ret := (some .int)) (lv := [(0, .int (nI k)), (1, .int (nI n)), (2, .null)]) (by decide +kernel) rfl (Nat.le_of_ble_eq_true rfl) rfl ?_
  intro p e s m below meth c A X hr hmn
  refine g_iload_n X dJ3_checkIndex_8e157_0 rfl 0 rfl rfl ?_
  refine g_if_lt X dJ3_checkIndex_8e157_1 9 (by decide) rfl (fun h1 => absurd h1 (nI_pos (by omega))) (fun h1 => ?_)
  have i1 := nj_nlt (a := k) (b := 0) (by omega) (by omega) h1
  refine g_iload_n X dJ3_checkIndex_8e157_4 rfl 0 rfl rfl ?_
  refine g_iload_n X dJ3_checkIndex_8e157_5 rfl 1 rfl rfl ?_
  refine g_icmp_lt X dJ3_checkIndex_8e157_6 16 (by decide) rfl (fun h6 => ?_) (fun h6 => absurd (nj_nlt (a := k) (b := n) (by omega) (by omega) h6) (by omega))
  have i6 := nj_lt (a := k) (b := n) (by omega) (by omega) h6
  refine g_iload_n X dJ3_checkIndex_8e157_16 rfl 0 rfl rfl ?_
  refine g_retR X hr (by first | rfl | exact b2i_nar _) dJ3_checkIndex_8e157_17 ?_
  rfl

set_option maxHeartbeats 4000000 in
set_option maxRecDepth 100000 in
theorem c_J3_r (l : Launch) (D : DT) (k n : Nat) (hk : k < n) (hn : n < 100) (t : Nat) : MR l yJ3_checkIndex_8e157 wsJ3_checkIndex_8e157 1 30 D [.int (nI k), .int (nI n), .ref t] [] (fun v => v = some (.int (nI k))) := by
  refine MR.of (cc := cJ3_checkIndex_8e157) (maxL := 3) (ret := (some .int)) (lv := [(0, .int (nI k)), (1, .int (nI n)), (2, .ref t)]) (by decide +kernel) rfl (Nat.le_of_ble_eq_true rfl) rfl ?_
  intro p e s m below meth c A X hr hmn
  refine g_iload_n X dJ3_checkIndex_8e157_0 rfl 0 rfl rfl ?_
  refine g_if_lt X dJ3_checkIndex_8e157_1 9 (by decide) rfl (fun h1 => absurd h1 (nI_pos (by omega))) (fun h1 => ?_)
  have i1 := nj_nlt (a := k) (b := 0) (by omega) (by omega) h1
  refine g_iload_n X dJ3_checkIndex_8e157_4 rfl 0 rfl rfl ?_
  refine g_iload_n X dJ3_checkIndex_8e157_5 rfl 1 rfl rfl ?_
  refine g_icmp_lt X dJ3_checkIndex_8e157_6 16 (by decide) rfl (fun h6 => ?_) (fun h6 => absurd (nj_nlt (a := k) (b := n) (by omega) (by omega) h6) (by omega))
  have i6 := nj_lt (a := k) (b := n) (by omega) (by omega) h6
  refine g_iload_n X dJ3_checkIndex_8e157_16 rfl 0 rfl rfl ?_
  refine g_retR X hr (by first | rfl | exact b2i_nar _) dJ3_checkIndex_8e157_17 ?_
  rfl

set_option maxHeartbeats 4000000 in
set_option maxRecDepth 100000 in
theorem c_J0_checkIndex_df160 (l : Launch) (D : DT) (k n : Nat) (hk : k < n) (hn : n < 100) : MR l yJ0_checkIndex_df160 wsJ0_checkIndex_df160 2 52 D [.int (nI k), .int (nI n)] [] (fun v => v = none) := by
  refine MR.of (cc := cJ0_checkIndex_df160) (maxL := 2) (ret := none) (lv := [(0, .int (nI k)), (1, .int (nI n))]) (by decide +kernel) rfl (Nat.le_of_ble_eq_true rfl) rfl ?_
  intro p e s m below meth c A X hr hmn
  refine g_iload_n X dJ0_checkIndex_df160_0 rfl 0 rfl rfl ?_
  refine g_iload_n X dJ0_checkIndex_df160_1 rfl 1 rfl rfl ?_
  rcases X.fmt with hF | ⟨tF, hF⟩
  · refine g_gets X dJ0_checkIndex_df160_2 (List.mem_of_getElem? (i := 1) rfl) hF rfl ?_
    refine g_callSR (n := 3) (As := [_, _, _]) (rest := []) X (c_J3_n l D k n hk hn) gJ0_checkIndex_df160_J3_checkIndex_8e157 rfl (by decide +kernel) ⟨Nat.le_of_ble_eq_true rfl, Nat.le_of_ble_eq_true rfl⟩ [] rfl rfl rfl rfl (Nat.le_of_ble_eq_true rfl) dJ0_checkIndex_df160_5 ⟨Nat.le_of_ble_eq_true rfl, Nat.le_of_ble_eq_true rfl⟩ rfl (fun v hv => ?_)
    obtain rfl := hv
    refine g_st (st' := [_]) rfl ?_
    refine g_pop X dJ0_checkIndex_df160_8 rfl rfl ?_
    refine g_vretR X hr dJ0_checkIndex_df160_9 ?_
    rfl
  · refine g_gets X dJ0_checkIndex_df160_2 (List.mem_of_getElem? (i := 1) rfl) hF rfl ?_
    refine g_callSR (n := 3) (As := [_, _, _]) (rest := []) X (c_J3_r l D k n hk hn tF) gJ0_checkIndex_df160_J3_checkIndex_8e157 rfl (by decide +kernel) ⟨Nat.le_of_ble_eq_true rfl, Nat.le_of_ble_eq_true rfl⟩ [] rfl rfl rfl rfl (Nat.le_of_ble_eq_true rfl) dJ0_checkIndex_df160_5 ⟨Nat.le_of_ble_eq_true rfl, Nat.le_of_ble_eq_true rfl⟩ rfl (fun v hv => ?_)
    obtain rfl := hv
    refine g_st (st' := [_]) rfl ?_
    refine g_pop X dJ0_checkIndex_df160_8 rfl rfl ?_
    refine g_vretR X hr dJ0_checkIndex_df160_9 ?_
    rfl

set_option maxHeartbeats 4000000 in
set_option maxRecDepth 100000 in
theorem c_J1_charAt_3b067 (l : Launch) (D : DT) (i : Nat) (hi7 : i < 7) (k : Nat) (hk : k < lenS.getD i 0) : MR l yJ1_charAt_3b067 wsJ1_charAt_3b067 3 73 D [.ref (D.2.2.2.2.2.2 i), .int (nI k)] [] (fun v => v = some (.int (shC i k))) := by
  have h7 := shN_lt i hi7
  refine MR.of (cc := cJ1_charAt_3b067) (maxL := 2) (ret := (some .char)) (lv := [(0, .ref (D.2.2.2.2.2.2 i)), (1, .int (nI k))]) (by decide +kernel) rfl (Nat.le_of_ble_eq_true rfl) rfl ?_
  intro p e s m below meth c A X hr hmn
  refine g_iload_n X dJ1_charAt_3b067_0 rfl 1 rfl rfl ?_
  refine g_aload_n X dJ1_charAt_3b067_1 rfl 0 rfl rfl ?_
  refine g_slen (i := i) X dJ1_charAt_3b067_2 hi7 rfl ?_
  refine g_callSR (n := 2) (As := [_, _]) (rest := []) X (c_J0_checkIndex_df160 l D k (lenS.getD i 0) hk (by omega)) gJ1_charAt_3b067_J0_checkIndex_df160 rfl (by decide +kernel) ⟨Nat.le_of_ble_eq_true rfl, Nat.le_of_ble_eq_true rfl⟩ [] rfl rfl rfl rfl (Nat.le_of_ble_eq_true rfl) dJ1_charAt_3b067_3 ⟨Nat.le_of_ble_eq_true rfl, Nat.le_of_ble_eq_true rfl⟩ rfl (fun v hv => ?_)
  obtain rfl := hv
  refine g_st (st' := []) rfl ?_
  refine g_aload_n X dJ1_charAt_3b067_6 rfl 0 rfl rfl ?_
  refine g_iload_n X dJ1_charAt_3b067_7 rfl 1 rfl rfl ?_
  refine g_sbal (i := i) X dJ1_charAt_3b067_8 hi7 (by first | rfl | assumption) (by omega) (by omega) (by have := shN_lt _ hi7; omega) rfl ?_
  refine g_sipush (v := (255 : Int32)) X dJ1_charAt_3b067_9 (by decide) rfl ?_
  refine g_iand X dJ1_charAt_3b067_12 rfl ?_
  refine g_i2c X dJ1_charAt_3b067_13 rfl rfl ?_
  refine g_topi (sh_c i hi7 k (by omega) hk).1 ?_
  refine g_retR X hr (sh_c i hi7 k (by omega) hk).2 dJ1_charAt_3b067_14 ?_
  rfl

set_option maxHeartbeats 4000000 in
set_option maxRecDepth 100000 in
theorem c_J0_charAt_5068e (l : Launch) (D : DT) (i : Nat) (hi7 : i < 7) (k : Nat) (hk : k < lenS.getD i 0) : MR l yJ0_charAt_5068e wsJ0_charAt_5068e 4 94 D [.ref (D.2.2.2.2.2.1 i), .int (nI k)] [] (fun v => v = some (.int (shC i k))) := by
  have h7 := shN_lt i hi7
  refine MR.of (cc := cJ0_charAt_5068e) (maxL := 2) (ret := (some .char)) (lv := [(0, .ref (D.2.2.2.2.2.1 i)), (1, .int (nI k))]) (by decide +kernel) rfl (Nat.le_of_ble_eq_true rfl) rfl ?_
  intro p e s m below meth c A X hr hmn
  have hl9 := List.mem_of_getElem? (l := wsJ0_charAt_5068e) (i := 1) rfl
  refine g_aload_n X dJ0_charAt_5068e_0 rfl 0 rfl rfl ?_
  refine g_callSt (n := 0) (As := []) (rest := []) X (c_J0_isLatin1_aae02 l D i hi7) gJ0_charAt_5068e_J0_isLatin1_aae02 rfl (by decide +kernel) ⟨Nat.le_of_ble_eq_true rfl, Nat.le_of_ble_eq_true rfl⟩ i hi7 rfl rfl [] rfl rfl rfl rfl (Nat.le_of_ble_eq_true rfl) dJ0_charAt_5068e_1 ⟨Nat.le_of_ble_eq_true rfl, Nat.le_of_ble_eq_true rfl⟩ rfl (fun v hv => ?_)
  obtain rfl := hv
  refine g_st (st' := [_]) rfl ?_
  refine g_if_eq X dJ0_charAt_5068e_4 16 (by decide) rfl (fun h4 => absurd (b2i_0 h4) (by decide)) (fun h4 => ?_)
  refine g_aload_n X dJ0_charAt_5068e_7 rfl 0 rfl rfl ?_
  refine g_sval (i := i) X dJ0_charAt_5068e_8 hl9 hi7 rfl ?_
  refine g_iload_n X dJ0_charAt_5068e_11 rfl 1 rfl rfl ?_
  refine g_callSR (n := 2) (As := [_, _]) (rest := []) X (c_J1_charAt_3b067 l D i hi7 k hk) gJ0_charAt_5068e_J1_charAt_3b067 rfl (by decide +kernel) ⟨Nat.le_of_ble_eq_true rfl, Nat.le_of_ble_eq_true rfl⟩ [] rfl rfl rfl rfl (Nat.le_of_ble_eq_true rfl) dJ0_charAt_5068e_12 ⟨Nat.le_of_ble_eq_true rfl, Nat.le_of_ble_eq_true rfl⟩ rfl (fun v hv => ?_)
  obtain rfl := hv
  refine g_st (st' := [_]) rfl ?_
  refine g_retR X hr (sh_c i hi7 k (by omega) hk).2 dJ0_charAt_5068e_15 ?_
  rfl

set_option maxHeartbeats 4000000 in
set_option maxRecDepth 100000 in
theorem c_X3_shapeOf (l : Launch) (D : DT) (kd : Int32) : MR l yX3_shapeOf wsX3_shapeOf 0 0 D [.int kd] [] (fun v => v = some (.ref (D.2.2.2.2.2.1 (shI kd)))) := by
  refine MR.of (cc := cX3_shapeOf) (maxL := 1) (ret := (some (.object "java/lang/String"))) (lv := [(0, .int kd)]) (by decide +kernel) rfl (Nat.le_of_ble_eq_true rfl) rfl ?_
  intro p e s m below meth c A X hr hmn
  refine g_iload_n X dX3_shapeOf_0 rfl 0 rfl rfl ?_
  rcases Classical.em (kd = (63 : Int32)) with ec1 | ne63
  · refine g_lookup X dX3_shapeOf_1 (by decide) (off := 74) (by rw [ec1]; decide) 75 (by decide) ?_
    refine g_ldcS (i := 5) X dX3_shapeOf_75 rfl (by decide) rfl rfl ?_
    refine g_aretR X hr rfl (by first | exact Or.inl rfl | exact Or.inr ⟨_, rfl⟩) dX3_shapeOf_77 ?_
    unfold shI
    rw [if_pos ec1]
  · rcases Classical.em (kd = (100 : Int32)) with ec1 | ne100
    · refine g_lookup X dX3_shapeOf_1 (by decide) (off := 71) (by rw [ec1]; decide) 72 (by decide) ?_
      refine g_ldcS (i := 4) X dX3_shapeOf_72 rfl (by decide) rfl rfl ?_
      refine g_aretR X hr rfl (by first | exact Or.inl rfl | exact Or.inr ⟨_, rfl⟩) dX3_shapeOf_74 ?_
      unfold shI
      rw [if_neg (by rw [ec1]; decide), if_pos ec1]
    · rcases Classical.em (kd = (111 : Int32)) with ec1 | ne111
      · refine g_lookup X dX3_shapeOf_1 (by decide) (off := 59) (by rw [ec1]; decide) 60 (by decide) ?_
        refine g_ldcS (i := 0) X dX3_shapeOf_60 rfl (by decide) rfl rfl ?_
        refine g_aretR X hr rfl (by first | exact Or.inl rfl | exact Or.inr ⟨_, rfl⟩) dX3_shapeOf_62 ?_
        unfold shI
        rw [if_neg (by rw [ec1]; decide), if_neg (by rw [ec1]; decide), if_pos ec1]
      · rcases Classical.em (kd = (112 : Int32)) with ec1 | ne112
        · refine g_lookup X dX3_shapeOf_1 (by decide) (off := 65) (by rw [ec1]; decide) 66 (by decide) ?_
          refine g_ldcS (i := 2) X dX3_shapeOf_66 rfl (by decide) rfl rfl ?_
          refine g_aretR X hr rfl (by first | exact Or.inl rfl | exact Or.inr ⟨_, rfl⟩) dX3_shapeOf_68 ?_
          unfold shI
          rw [if_neg (by rw [ec1]; decide), if_neg (by rw [ec1]; decide), if_neg (by rw [ec1]; decide), if_pos ec1]
        · rcases Classical.em (kd = (115 : Int32)) with ec1 | ne115
          · refine g_lookup X dX3_shapeOf_1 (by decide) (off := 62) (by rw [ec1]; decide) 63 (by decide) ?_
            refine g_ldcS (i := 1) X dX3_shapeOf_63 rfl (by decide) rfl rfl ?_
            refine g_aretR X hr rfl (by first | exact Or.inl rfl | exact Or.inr ⟨_, rfl⟩) dX3_shapeOf_65 ?_
            unfold shI
            rw [if_neg (by rw [ec1]; decide), if_neg (by rw [ec1]; decide), if_neg (by rw [ec1]; decide), if_neg (by rw [ec1]; decide), if_pos ec1]
          · rcases Classical.em (kd = (116 : Int32)) with ec1 | ne116
            · refine g_lookup X dX3_shapeOf_1 (by decide) (off := 68) (by rw [ec1]; decide) 69 (by decide) ?_
              refine g_ldcS (i := 3) X dX3_shapeOf_69 rfl (by decide) rfl rfl ?_
              refine g_aretR X hr rfl (by first | exact Or.inl rfl | exact Or.inr ⟨_, rfl⟩) dX3_shapeOf_71 ?_
              unfold shI
              rw [if_neg (by rw [ec1]; decide), if_neg (by rw [ec1]; decide), if_neg (by rw [ec1]; decide), if_neg (by rw [ec1]; decide), if_neg (by rw [ec1]; decide), if_pos ec1]
            · refine g_lookup X dX3_shapeOf_1 (by decide) (off := 77) (by show Op.lookupswitch.offset [(63, 74), (100, 71), (111, 59), (112, 65), (115, 62), (116, 68)] (77) (kd).toInt = (77); rw [lv_osw (a := 63) ne63 rfl, lv_osw (a := 100) ne100 rfl, lv_osw (a := 111) ne111 rfl, lv_osw (a := 112) ne112 rfl, lv_osw (a := 115) ne115 rfl, lv_osw (a := 116) ne116 rfl]; rfl) 78 (by decide) ?_
              refine g_ldcS (i := 6) X dX3_shapeOf_78 rfl (by decide) rfl rfl ?_
              refine g_aretR X hr rfl (by first | exact Or.inl rfl | exact Or.inr ⟨_, rfl⟩) dX3_shapeOf_80 ?_
              unfold shI
              rw [if_neg ne63, if_neg ne100, if_neg ne111, if_neg ne112, if_neg ne115, if_neg ne116]
