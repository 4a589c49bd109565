set_option maxHeartbeats 4000000 in
set_option maxRecDepth 100000 in
theorem c_X3_signAt (l : Launch) (D : DT) (n j : Nat) (hn : n < 2 ^ 64) (hj : j < 8) : MR l yX3_signAt wsX3_signAt 0 0 D [.long (lN n), .int (nI j)] [] (fun v => v = some (.int (nI (n / 2 ^ (8 * j) % 256)))) := by
  refine MR.of (cc := cX3_signAt) (maxL := 3) (ret := (some .int)) (lv := [(0, .long (lN n)), (2, .int (nI j))]) (by decide +kernel) rfl (Nat.le_of_ble_eq_true rfl) rfl ?_
  intro p e s m below meth c A X hr hmn
  refine g_lload_n X dX3_signAt_0 rfl 0 rfl rfl ?_
  refine g_bipush (v := (8 : Int32)) X dX3_signAt_1 (by decide) rfl ?_
  refine g_iload_n X dX3_signAt_3 rfl 1 rfl rfl ?_
  refine g_imul X dX3_signAt_4 rfl ?_
  refine g_topi (y := nI (8 * j)) (pk_mul (8) (j)) ?_
  refine g_lushr X dX3_signAt_5 rfl rfl ?_
  refine g_topl (wb_shr hn (by omega)) ?_
  refine g_ldc2 X dX3_signAt_6 (List.mem_of_getElem? (i := 1) rfl) rfl ?_
  refine g_land X dX3_signAt_9 rfl ?_
  refine g_topl (lN_255 (Nat.lt_of_le_of_lt (Nat.div_le_self _ _) hn)) ?_
  refine g_l2i X dX3_signAt_10 rfl rfl ?_
  refine g_topi (lN_i _) ?_
  refine g_retR X hr (by first | rfl | exact b2i_nar _) dX3_signAt_11 ?_
  rfl

set_option maxHeartbeats 4000000 in
set_option maxRecDepth 100000 in
theorem c_X3_countSigns (l : Launch) (D : DT) (n : Nat) (hn : n < 2 ^ 64) : MR l yX3_countSigns wsX3_countSigns 1 22 D [.long (lN n)] [] (fun v => v = some (.int (nI (putN n)))) := by
  refine MR.of (cc := cX3_countSigns) (maxL := 4) (ret := (some .int)) (lv := [(0, .long (lN n))]) (by decide +kernel) rfl (Nat.le_of_ble_eq_true rfl) rfl ?_
  intro p e s m below meth c A X hr hmn
  refine g_iconst (v := (0 : Int32)) X dX3_countSigns_0 (by decide) rfl ?_
  refine g_istore_n X [(2, _), (0, _)] dX3_countSigns_1 rfl (by decide) rfl rfl ?_
  have L2 : ∀ (k i : Nat) (hk : i + k = 8) (hR : cM k (n / 2 ^ (8 * i)) i = putN n), GG p l e (wRoom 1 22 0 0) s m ([.long (lN n)] : List Value).toArray below meth c D A 4 true 0 0 (MQ below (roQ (fun v => v = some (.int (nI (putN n))))) ([.long (lN n)] : List Value).toArray s 0 0 (fun _ => False)) [] 2 [(2, .int (nI i)), (0, .long (lN n))] [] := by
    intro k
    induction k using Nat.strongRecOn with
    | _ k ih =>
    intro i hk hR
    refine g_iload_n X dX3_countSigns_2 rfl 0 rfl rfl ?_
    refine g_bipush (v := (8 : Int32)) X dX3_countSigns_3 (by decide) rfl ?_
    refine g_icmp_ge X dX3_countSigns_5 45 (by decide) rfl (fun h5 => ?_) (fun h5 => ?_)
    · have i5 := nj_le (a := 8) (b := i) (by omega) (by omega) h5
      have hE : putN n = i := by
        rw [← hR]
        have hr0 : n / 2 ^ (8 * i) = 0 := by
          first
          | exact (lg_0 (Nat.lt_of_le_of_lt (Nat.div_le_self _ _) hn)).mp h16
          | (rw [show i = 8 from by omega]; exact Nat.div_eq_of_lt hn)
        rw [hr0]
        cases k with
        | zero => rw [cM, if_neg (by omega)]
        | succ k =>
          rw [cM, if_neg (by decide)]
          by_cases hi0 : i = 0
          · rw [if_pos (Or.inl hi0)]; exact hi0.symm
          · rw [if_neg (by omega)]
      refine g_iload_n X dX3_countSigns_45 rfl 0 rfl rfl ?_
      refine g_retR X hr (by first | rfl | exact b2i_nar _) dX3_countSigns_46 ?_
      exact congrArg (fun x => some (Value.int (nI x))) hE.symm
    · have i5 := nj_nle (a := 8) (b := i) (by omega) (by omega) h5
      refine g_lload_n X dX3_countSigns_8 rfl 1 rfl rfl ?_
      refine g_bipush (v := (8 : Int32)) X dX3_countSigns_9 (by decide) rfl ?_
      refine g_iload_n X dX3_countSigns_11 rfl 0 rfl rfl ?_
      refine g_imul X dX3_countSigns_12 rfl ?_
      refine g_topi (y := nI (8 * i)) (pk_mul (8) (i)) ?_
      refine g_lushr X dX3_countSigns_13 rfl rfl ?_
      refine g_topl (wb_shr hn (by omega)) ?_
      refine g_lconst (v := (0 : Int64)) X dX3_countSigns_14 (by decide) rfl ?_
      refine g_lcmp X dX3_countSigns_15 rfl ?_
      refine g_if_eq X dX3_countSigns_16 45 (by decide) rfl (fun h16 => ?_) (fun h16 => ?_)
      · have hE : putN n = i := by
          rw [← hR]
          have hr0 : n / 2 ^ (8 * i) = 0 := by
            first
            | exact (lg_0 (Nat.lt_of_le_of_lt (Nat.div_le_self _ _) hn)).mp h16
            | (rw [show i = 8 from by omega]; exact Nat.div_eq_of_lt hn)
          rw [hr0]
          cases k with
          | zero => rw [cM, if_neg (by omega)]
          | succ k =>
            rw [cM, if_neg (by decide)]
            by_cases hi0 : i = 0
            · rw [if_pos (Or.inl hi0)]; exact hi0.symm
            · rw [if_neg (by omega)]
        refine g_iload_n X dX3_countSigns_45 rfl 0 rfl rfl ?_
        refine g_retR X hr (by first | rfl | exact b2i_nar _) dX3_countSigns_46 ?_
        exact congrArg (fun x => some (Value.int (nI x))) hE.symm
      · have hr0 : ¬ n / 2 ^ (8 * i) = 0 := fun z => h16 ((lg_0 (Nat.lt_of_le_of_lt (Nat.div_le_self _ _) hn)).mpr z)
        refine g_lload_n X dX3_countSigns_19 rfl 1 rfl rfl ?_
        refine g_iload_n X dX3_countSigns_20 rfl 0 rfl rfl ?_
        refine g_callSR (n := 2) (As := [_, _]) (rest := []) X (c_X3_signAt l D n (i) hn (by omega)) gX3_countSigns_X3_signAt rfl (by decide +kernel) ⟨Nat.le_of_ble_eq_true rfl, Nat.le_of_ble_eq_true rfl⟩ [] rfl rfl rfl rfl (Nat.le_of_ble_eq_true rfl) dX3_countSigns_21 ⟨Nat.le_of_ble_eq_true rfl, Nat.le_of_ble_eq_true rfl⟩ rfl (fun v hv => ?_)
        obtain rfl := hv
        refine g_st (st' := [_]) rfl ?_
        refine g_istore_n X [(3, _), (2, _), (0, _)] dX3_countSigns_24 rfl (by decide) rfl rfl ?_
        refine g_iload_n X dX3_countSigns_25 rfl 0 rfl rfl ?_
        refine g_bipush (v := (33 : Int32)) X dX3_countSigns_26 (by decide) rfl ?_
        refine g_icmp_lt X dX3_countSigns_28 37 (by decide) rfl (fun h28 => ?_) (fun h28 => ?_)
        · have i28 := nj_lt (a := (n / 2 ^ (8 * i) % 256)) (b := 33) (by omega) (by omega) h28
          refine g_iconst (v := (0 : Int32)) X dX3_countSigns_37 (by decide) rfl ?_
          refine g_retR X hr (by first | rfl | exact b2i_nar _) dX3_countSigns_38 ?_
          obtain ⟨k1, rfl⟩ : ∃ k1, k = k1 + 1 := ⟨k - 1, by omega⟩
          have hE : putN n = 0 := by
            rw [← hR, cM]
            by_cases hz : n / 2 ^ (8 * i) % 256 = 0
            · rw [if_neg (not_not_intro hz), if_pos (Or.inr hr0)]
            · rw [if_pos hz, if_neg (by omega)]
          rw [hE]
          rfl
        · have i28 := nj_nlt (a := (n / 2 ^ (8 * i) % 256)) (b := 33) (by omega) (by omega) h28
          refine g_iload_n X dX3_countSigns_31 rfl 0 rfl rfl ?_
          refine g_bipush (v := (126 : Int32)) X dX3_countSigns_32 (by decide) rfl ?_
          refine g_icmp_le X dX3_countSigns_34 39 (by decide) rfl (fun h34 => ?_) (fun h34 => ?_)
          · have i34 := nj_le (a := (n / 2 ^ (8 * i) % 256)) (b := 126) (by omega) (by omega) h34
            refine g_iinc (v := nI (i + 1)) X [(2, _), (3, _), (0, _)] dX3_countSigns_39 1 rfl (nI_add (i) 1) (by decide) rfl rfl ?_
            refine g_goto X dX3_countSigns_42 2 (by decide) ?_
            refine g_lv [0, 2] [(2, _), (0, _)] rfl ?_
            obtain ⟨k1, rfl⟩ : ∃ k1, k = k1 + 1 := ⟨k - 1, by omega⟩
            refine ih k1 (by omega) (i + 1) (by omega) ?_
            rw [cM, if_pos (by omega), if_pos (by omega)] at hR
            rw [show 8 * (i + 1) = 8 * i + 8 from by omega, Nat.pow_add, ← Nat.div_div_eq_div_mul]
            exact hR
          · have i34 := nj_nle (a := (n / 2 ^ (8 * i) % 256)) (b := 126) (by omega) (by omega) h34
            refine g_iconst (v := (0 : Int32)) X dX3_countSigns_37 (by decide) rfl ?_
            refine g_retR X hr (by first | rfl | exact b2i_nar _) dX3_countSigns_38 ?_
            obtain ⟨k1, rfl⟩ : ∃ k1, k = k1 + 1 := ⟨k - 1, by omega⟩
            have hE : putN n = 0 := by
              rw [← hR, cM]
              by_cases hz : n / 2 ^ (8 * i) % 256 = 0
              · rw [if_neg (not_not_intro hz), if_pos (Or.inr hr0)]
              · rw [if_pos hz, if_neg (by omega)]
            rw [hE]
            rfl
  exact L2 8 0 (by omega) (by rw [Nat.mul_zero, Nat.pow_zero, Nat.div_one]; rfl)

set_option maxHeartbeats 4000000 in
set_option maxRecDepth 100000 in
theorem c_X3_append (l : Launch) (D : DT) (a : Nat → Nat) (td vl : Nat → Int32) (L pt fl : Nat) (kd : Int32) (hL : L ≤ 80) (n : Nat) (hn : n < 2 ^ 64) : MW l yX3_append wsX3_append 2 45 0 0 D [.ref (a 20), .long (lN n)] (wP D a td vl L pt fl kd) (fun v w2 => v = some (.int (putS n L)) ∧ w2 = (wP D a (putF td n L) vl (putL n L) pt fl kd)) := by
  obtain ⟨m1, hm1⟩ : ∃ m1, putN n = m1 := ⟨_, rfl⟩
  have hm8 : m1 ≤ 8 := by rw [← hm1]; exact putN_le n
  refine MW.of (cc := cX3_append) (maxL := 5) (ret := (some .int)) (lv := [(0, .ref (a 20)), (1, .long (lN n))]) (by decide +kernel) rfl (Nat.le_of_ble_eq_true rfl) rfl ?_
  intro p e s m below meth c A hAe hAg X hr hmn
  have hinX30 : ∀ w ∈ wsX30, w ∈ wsX3_append := fun w h => List.mem_cons_of_mem _ (List.mem_append_right _ h)
  have hl23 := List.mem_of_getElem? (l := wsX3_append) (i := 1) rfl
  have hl9 := List.mem_of_getElem? (l := wsX3_append) (i := 2) rfl
  refine g_lload_n X dX3_append_0 rfl 1 rfl rfl ?_
  refine g_callSR (n := 1) (As := [_]) (rest := []) X (c_X3_countSigns l D n hn) gX3_append_X3_countSigns rfl (by decide +kernel) ⟨Nat.le_of_ble_eq_true rfl, Nat.le_of_ble_eq_true rfl⟩ [] rfl rfl rfl rfl (Nat.le_of_ble_eq_true rfl) dX3_append_1 ⟨Nat.le_of_ble_eq_true rfl, Nat.le_of_ble_eq_true rfl⟩ rfl (fun v hv => ?_)
  obtain rfl := hv
  refine g_st (st' := [_]) rfl ?_
  rw [hm1]
  refine g_istore_n X [(3, _), (0, _), (1, _)] dX3_append_4 rfl (by decide) rfl rfl ?_
  refine g_iload_n X dX3_append_5 rfl 0 rfl rfl ?_
  refine g_if_ne X dX3_append_6 12 (by decide) rfl (fun h6 => ?_) (fun h6 => ?_)
  · have i6 := nj_ne (a := m1) (b := 0) (by omega) (by omega) h6
    refine g_aload_n X dX3_append_12 rfl 1 rfl rfl ?_
    refine gP_get_length X dX3_append_13 hinX30 hl23 rfl ?_
    refine g_iload_n X dX3_append_16 rfl 0 rfl rfl ?_
    refine g_iadd X dX3_append_17 rfl ?_
    refine g_topi (y := nI (L + m1)) (nI_add (L) (m1)) ?_
    refine g_bipush (v := (80 : Int32)) X dX3_append_18 (by decide) rfl ?_
    refine g_icmp_le X dX3_append_20 26 (by decide) rfl (fun h20 => ?_) (fun h20 => ?_)
    · have i20 := nj_le (a := (L + m1)) (b := 80) (by omega) (by omega) h20
      refine g_iload_n X dX3_append_26 rfl 0 rfl rfl ?_
      refine g_iconst (v := (1 : Int32)) X dX3_append_27 (by decide) rfl ?_
      refine g_isub X dX3_append_28 rfl ?_
      refine g_istore X [(4, _), (3, _), (0, _), (1, _)] dX3_append_29 (by decide) rfl rfl ?_
      have L31 : ∀ (q i : Nat) (hi : i ≤ m1) (hq : m1 - i = q), GG p l e (wRoom 2 45 0 0) s m ([.ref (a 20), .long (lN n)] : List Value).toArray below meth c D A 5 false 0 0 (MQ below (wrQ D (wP D a td vl L pt fl kd) s.heap.size (fun v w2 => v = some (.int (putS n L)) ∧ w2 = (wP D a (putF td n L) vl (putL n L) pt fl kd))) ([.ref (a 20), .long (lN n)] : List Value).toArray s 0 0 (va_A (wP D a td vl L pt fl kd) s.heap.size)) (wP D a (ptI td L n m1 i) vl (L + i) pt fl kd) 31 [(4, .int (nI (m1 - i) - 1)), (3, .int (nI m1)), (0, .ref (a 20)), (1, .long (lN n))] [] := by
        intro q
        induction q using Nat.strongRecOn with
        | _ q ih =>
        intro i hi hq
        refine g_iload X dX3_append_31 0 rfl rfl ?_
        refine g_if_lt X dX3_append_33 68 (by decide) rfl (fun h33 => ?_) (fun h33 => ?_)
        · have i33 : _ < (0 : Int) := ic_lt h33
          have hii : m1 = i := by
            rcases Nat.lt_or_ge i m1 with z | z
            · rw [show nI (m1 - i) - 1 = nI (m1 - i - 1) from pk_sub (a := m1 - i) (b := 1) (by omega)] at h33; exact absurd h33 (Int32.not_lt.mpr (nI_ge0 (by omega)))
            · omega
          refine g_aload_n X dX3_append_68 rfl 2 rfl rfl ?_
          refine gP_get_length X dX3_append_69 hinX30 hl23 rfl ?_
          refine g_retW X hr (by first | rfl | exact b2i_nar _) dX3_append_72 hAe ?_
          subst hii
          unfold putS putF putL
          rw [hm1, if_neg i6, if_neg (by omega), if_neg (by omega), if_neg (by omega)]
          exact ⟨rfl, rfl⟩
        · have i33 : (0 : Int) ≤ _ := ic_nlt h33
          have him : i < m1 := by
            rcases Nat.lt_or_ge i m1 with z | z
            · exact z
            · rw [show m1 - i = 0 from by omega] at h33; exact absurd (show nI 0 - 1 < 0 by decide) h33
          refine g_aload_n X dX3_append_36 rfl 2 rfl rfl ?_
          refine gP_get_text X dX3_append_37 hinX30 hl9 rfl ?_
          refine g_aload_n X dX3_append_40 rfl 2 rfl rfl ?_
          refine gP_get_length X dX3_append_41 hinX30 hl23 rfl ?_
          refine g_lload_n X dX3_append_44 rfl 3 rfl rfl ?_
          refine g_iload X dX3_append_45 0 rfl rfl ?_
          refine g_topi (pk_sub (a := m1 - i) (b := 1) (by omega)) ?_
          refine g_callSR (n := 2) (As := [_, _]) (rest := [_, _]) X (c_X3_signAt l D n ((m1 - i - 1)) hn (by omega)) gX3_append_X3_signAt rfl (by decide +kernel) ⟨Nat.le_of_ble_eq_true rfl, Nat.le_of_ble_eq_true rfl⟩ [] rfl rfl rfl rfl (Nat.le_of_ble_eq_true rfl) dX3_append_47 ⟨Nat.le_of_ble_eq_true rfl, Nat.le_of_ble_eq_true rfl⟩ rfl (fun v hv => ?_)
          obtain rfl := hv
          refine g_st (st' := [_, _, _]) rfl ?_
          refine g_i2c X dX3_append_50 rfl rfl ?_
          refine g_topi (y := chrB n (m1 - 1 - i)) ((i2c_n _ (by omega)).trans (congrArg nI (by rw [show m1 - i - 1 = m1 - 1 - i from by omega, Nat.pow_mul]))) ?_
          refine gP_st_text X rfl dX3_append_51 (by first | rfl | assumption) (by omega) (nar_c _ (by omega)) rfl ?_
          refine g_aload_n X dX3_append_52 rfl 2 rfl rfl ?_
          refine g_dup X dX3_append_53 rfl rfl ?_
          refine gP_get_length X dX3_append_54 hinX30 hl23 rfl ?_
          refine g_iconst (v := (1 : Int32)) X dX3_append_57 (by decide) rfl ?_
          refine g_iadd X dX3_append_58 rfl ?_
          refine g_topi (y := nI ((L + i) + 1)) (nI_add ((L + i)) (1)) ?_
          refine gP_put_length (v := ((L + i) + 1)) X rfl dX3_append_59 hinX30 hl23 rfl ?_
          refine g_iinc (v := nI (m1 - (i + 1)) - 1) X [(4, _), (3, _), (0, _), (1, _)] dX3_append_62 0 rfl (by rw [iinc_m1, show nI (m1 - i) - 1 = nI (m1 - i - 1) from pk_sub (a := m1 - i) (b := 1) (by omega)]; rfl) (by decide) rfl rfl ?_
          refine g_goto X dX3_append_65 31 (by decide) ?_
          refine g_ws (wP_td ptI_s) ?_
          exact ih (m1 - (i + 1)) (by omega) (i + 1) (by omega) rfl
      refine g_ws (wP_td (ptI_0 td L n m1).symm) ?_
      exact L31 m1 0 (by omega) rfl
    · have i20 := nj_nle (a := (L + m1)) (b := 80) (by omega) (by omega) h20
      refine g_bipush (v := ((-4) : Int32)) X dX3_append_23 (by decide) rfl ?_
      refine g_retW X hr (by first | rfl | exact b2i_nar _) dX3_append_25 hAe ?_
      unfold putS putF putL
      rw [hm1, if_neg i6, if_pos (by omega), if_pos (Or.inr (by omega)), if_pos (Or.inr (by omega))]
      exact ⟨rfl, rfl⟩
  · have i6 := nj_eq (a := m1) (b := 0) (by omega) (by omega) h6
    refine g_bipush (v := ((-2) : Int32)) X dX3_append_9 (by decide) rfl ?_
    refine g_retW X hr (by first | rfl | exact b2i_nar _) dX3_append_11 hAe ?_
    unfold putS putF putL
    rw [hm1, if_pos i6, if_pos (Or.inl i6), if_pos (Or.inl i6)]
    exact ⟨rfl, rfl⟩

set_option maxHeartbeats 4000000 in
set_option maxRecDepth 100000 in
theorem c_X3_clear (l : Launch) (D : DT) (a : Nat → Nat) (td vl : Nat → Int32) (L pt fl : Nat) (kd : Int32) (hL : L ≤ 80) : MW l yX3_clear wsX3_clear 0 0 0 0 D [.ref (a 20)] (wP D a td vl L pt fl kd) (fun v w2 => v = some (.int (nI L)) ∧ w2 = (wP D a td vl 0 pt fl kd)) := by
  refine MW.of (cc := cX3_clear) (maxL := 2) (ret := (some .int)) (lv := [(0, .ref (a 20))]) (by decide +kernel) rfl (Nat.le_of_ble_eq_true rfl) rfl ?_
  intro p e s m below meth c A hAe hAg X hr hmn
  have hinX30 : ∀ w ∈ wsX30, w ∈ wsX3_clear := fun w h => List.mem_cons_of_mem _ (List.mem_append_right _ h)
  have hl23 := List.mem_of_getElem? (l := wsX3_clear) (i := 1) rfl
  refine g_aload_n X dX3_clear_0 rfl 0 rfl rfl ?_
  refine gP_get_length X dX3_clear_1 hinX30 hl23 rfl ?_
  refine g_istore_n X [(1, _), (0, _)] dX3_clear_4 rfl (by decide) rfl rfl ?_
  refine g_aload_n X dX3_clear_5 rfl 1 rfl rfl ?_
  refine g_iconst (v := (0 : Int32)) X dX3_clear_6 (by decide) rfl ?_
  refine gP_put_length (v := 0) X rfl dX3_clear_7 hinX30 hl23 rfl ?_
  refine g_iload_n X dX3_clear_10 rfl 0 rfl rfl ?_
  refine g_retW X hr (by first | rfl | exact b2i_nar _) dX3_clear_11 hAe ?_
  exact ⟨rfl, rfl⟩

set_option maxHeartbeats 4000000 in
set_option maxRecDepth 100000 in
theorem c_X3_startReading (l : Launch) (D : DT) (a : Nat → Nat) (td vl : Nat → Int32) (L pt fl : Nat) (kd : Int32) (hL : L ≤ 80) : MW l yX3_startReading wsX3_startReading 0 0 0 0 D [.ref (a 20)] (wP D a td vl L pt fl kd) (fun v w2 => v = none ∧ w2 = (wP D a td vl L 0 fl kd)) := by
  refine MW.of (cc := cX3_startReading) (maxL := 1) (ret := none) (lv := [(0, .ref (a 20))]) (by decide +kernel) rfl (Nat.le_of_ble_eq_true rfl) rfl ?_
  intro p e s m below meth c A hAe hAg X hr hmn
  have hinX30 : ∀ w ∈ wsX30, w ∈ wsX3_startReading := fun w h => List.mem_cons_of_mem _ (List.mem_append_right _ h)
  have hl40 := List.mem_of_getElem? (l := wsX3_startReading) (i := 1) rfl
  refine g_aload_n X dX3_startReading_0 rfl 0 rfl rfl ?_
  refine g_iconst (v := (0 : Int32)) X dX3_startReading_1 (by decide) rfl ?_
  refine gP_put_at (v := 0) X rfl dX3_startReading_2 hinX30 hl40 rfl ?_
  refine g_vretW X hr dX3_startReading_5 hAe ?_
  exact ⟨rfl, rfl⟩

set_option maxHeartbeats 4000000 in
set_option maxRecDepth 100000 in
theorem c_X3_skipSign (l : Launch) (D : DT) (a : Nat → Nat) (td vl : Nat → Int32) (L pt fl : Nat) (kd : Int32) (hL : L ≤ 80) : MW l yX3_skipSign wsX3_skipSign 0 0 0 0 D [.ref (a 20)] (wP D a td vl L pt fl kd) (fun v w2 => v = none ∧ w2 = (wP D a td vl L (pt + 1) fl kd)) := by
  refine MW.of (cc := cX3_skipSign) (maxL := 1) (ret := none) (lv := [(0, .ref (a 20))]) (by decide +kernel) rfl (Nat.le_of_ble_eq_true rfl) rfl ?_
  intro p e s m below meth c A hAe hAg X hr hmn
  have hinX30 : ∀ w ∈ wsX30, w ∈ wsX3_skipSign := fun w h => List.mem_cons_of_mem _ (List.mem_append_right _ h)
  have hl40 := List.mem_of_getElem? (l := wsX3_skipSign) (i := 1) rfl
  refine g_aload_n X dX3_skipSign_0 rfl 0 rfl rfl ?_
  refine g_dup X dX3_skipSign_1 rfl rfl ?_
  refine gP_get_at X dX3_skipSign_2 hinX30 hl40 rfl ?_
  refine g_iconst (v := (1 : Int32)) X dX3_skipSign_5 (by decide) rfl ?_
  refine g_iadd X dX3_skipSign_6 rfl ?_
  refine g_topi (y := nI (pt + 1)) (nI_add (pt) (1)) ?_
  refine gP_put_at (v := (pt + 1)) X rfl dX3_skipSign_7 hinX30 hl40 rfl ?_
  refine g_vretW X hr dX3_skipSign_10 hAe ?_
  exact ⟨rfl, rfl⟩

set_option maxHeartbeats 4000000 in
set_option maxRecDepth 100000 in
theorem c_X3_take (l : Launch) (D : DT) (a : Nat → Nat) (td vl : Nat → Int32) (L pt fl : Nat) (kd : Int32) (hL : L ≤ 80) (x : Int32) (hf4 : fl ≤ 4) : MW l yX3_take wsX3_take 1 20 0 0 D [.ref (a 20), .int x] (wP D a td vl L pt fl kd) (fun v w2 => v = some (.int (b2i true)) ∧ w2 = (wP D a td (yTake x (pt, fl, vl)).2.2 L (yTake x (pt, fl, vl)).1 (yTake x (pt, fl, vl)).2.1 kd)) := by
  refine MW.of (cc := cX3_take) (maxL := 2) (ret := (some .boolean)) (lv := [(0, .ref (a 20)), (1, .int x)]) (by decide +kernel) rfl (Nat.le_of_ble_eq_true rfl) rfl ?_
  intro p e s m below meth c A hAe hAg X hr hmn
  have hinX30 : ∀ w ∈ wsX30, w ∈ wsX3_take := fun w h => List.mem_cons_of_mem _ (List.mem_append_right _ h)
  have hl59 := List.mem_of_getElem? (l := wsX3_take) (i := 1) rfl
  have hl15 := List.mem_of_getElem? (l := wsX3_take) (i := 2) rfl
  refine g_aload_n X dX3_take_0 rfl 0 rfl rfl ?_
  refine gP_get_filled X dX3_take_1 hinX30 hl59 rfl ?_
  refine g_aload_n X dX3_take_4 rfl 0 rfl rfl ?_
  refine gP_get_values X dX3_take_5 hinX30 hl15 rfl ?_
  refine gP_len_values X dX3_take_8 rfl ?_
  refine g_icmp_ge X dX3_take_9 32 (by decide) rfl (fun h9 => ?_) (fun h9 => ?_)
  · have i9 := nj_le (a := 4) (b := fl) (by omega) (by omega) h9
    refine g_aload_n X dX3_take_32 rfl 0 rfl rfl ?_
    refine g_callVWsq (n := 0) (As := []) (rest := []) X hAg rfl (c_X3_skipSign l D _ _ _ _ _ _ _ hL) gX3_take_X3_skipSign rfl (by decide +kernel) ⟨Nat.le_of_ble_eq_true rfl, Nat.le_of_ble_eq_true rfl⟩ 0 rfl rfl  rfl rfl (Nat.le_of_ble_eq_true rfl) dX3_take_33 ⟨Nat.le_of_ble_eq_true rfl, Nat.le_of_ble_eq_true rfl⟩ rfl (fun v w hv => ?_)
    obtain ⟨rfl, rfl⟩ := hv
    refine ⟨rfl, ?_⟩
    refine g_st (st' := []) rfl ?_
    refine g_iconst (v := (1 : Int32)) X dX3_take_36 (by decide) rfl ?_
    refine g_retW X hr (by first | rfl | exact b2i_nar _) dX3_take_37 hAe ?_
    refine ⟨rfl, ?_⟩
    unfold yTake
    first
    | (rw [if_pos (show fl < 4 from i9), if_pos (show fl < 4 from i9)])
    | (rw [if_neg (show ¬ fl < 4 from by omega), if_neg (show ¬ fl < 4 from by omega)])
  · have i9 := nj_nle (a := 4) (b := fl) (by omega) (by omega) h9
    refine g_aload_n X dX3_take_12 rfl 0 rfl rfl ?_
    refine gP_get_values X dX3_take_13 hinX30 hl15 rfl ?_
    refine g_aload_n X dX3_take_16 rfl 0 rfl rfl ?_
    refine gP_get_filled X dX3_take_17 hinX30 hl59 rfl ?_
    refine g_iload_n X dX3_take_20 rfl 1 rfl rfl ?_
    refine gP_st_values X rfl dX3_take_21 (by first | rfl | assumption) (by omega) rfl ?_
    refine g_aload_n X dX3_take_22 rfl 0 rfl rfl ?_
    refine g_dup X dX3_take_23 rfl rfl ?_
    refine gP_get_filled X dX3_take_24 hinX30 hl59 rfl ?_
    refine g_iconst (v := (1 : Int32)) X dX3_take_27 (by decide) rfl ?_
    refine g_iadd X dX3_take_28 rfl ?_
    refine g_topi (y := nI (fl + 1)) (nI_add (fl) (1)) ?_
    refine gP_put_filled (v := (fl + 1)) X rfl dX3_take_29 hinX30 hl59 rfl ?_
    refine g_aload_n X dX3_take_32 rfl 0 rfl rfl ?_
    refine g_callVWsq (n := 0) (As := []) (rest := []) X hAg rfl (c_X3_skipSign l D _ _ _ _ _ _ _ hL) gX3_take_X3_skipSign rfl (by decide +kernel) ⟨Nat.le_of_ble_eq_true rfl, Nat.le_of_ble_eq_true rfl⟩ 0 rfl rfl  rfl rfl (Nat.le_of_ble_eq_true rfl) dX3_take_33 ⟨Nat.le_of_ble_eq_true rfl, Nat.le_of_ble_eq_true rfl⟩ rfl (fun v w hv => ?_)
    obtain ⟨rfl, rfl⟩ := hv
    refine ⟨rfl, ?_⟩
    refine g_st (st' := []) rfl ?_
    refine g_iconst (v := (1 : Int32)) X dX3_take_36 (by decide) rfl ?_
    refine g_retW X hr (by first | rfl | exact b2i_nar _) dX3_take_37 hAe ?_
    refine ⟨rfl, ?_⟩
    unfold yTake
    first
    | (rw [if_pos (show fl < 4 from i9), if_pos (show fl < 4 from i9)])
    | (rw [if_neg (show ¬ fl < 4 from by omega), if_neg (show ¬ fl < 4 from by omega)])

set_option maxHeartbeats 4000000 in
set_option maxRecDepth 100000 in
theorem c_X3_readItself (l : Launch) (D : DT) (a : Nat → Nat) (td vl : Nat → Int32) (L pt fl : Nat) (kd : Int32) (hL : L ≤ 80) (hpt : pt < L) (ch : Int32) : MW l yX3_readItself wsX3_readItself 1 20 0 0 D [.ref (a 20), .int ch] (wP D a td vl L pt fl kd) (fun v w2 => v = some (.int (b2i (yItself td ch (pt, fl, vl)).1)) ∧ w2 = (wP D a td (yItself td ch (pt, fl, vl)).2.2.2 L (yItself td ch (pt, fl, vl)).2.1 (yItself td ch (pt, fl, vl)).2.2.1 kd)) := by
  refine MW.of (cc := cX3_readItself) (maxL := 2) (ret := (some .boolean)) (lv := [(0, .ref (a 20)), (1, .int ch)]) (by decide +kernel) rfl (Nat.le_of_ble_eq_true rfl) rfl ?_
  intro p e s m below meth c A hAe hAg X hr hmn
  have hinX30 : ∀ w ∈ wsX30, w ∈ wsX3_readItself := fun w h => List.mem_cons_of_mem _ (List.mem_append_right _ h)
  have hl9 := List.mem_of_getElem? (l := wsX3_readItself) (i := 1) rfl
  have hl40 := List.mem_of_getElem? (l := wsX3_readItself) (i := 2) rfl
  refine g_aload_n X dX3_readItself_0 rfl 0 rfl rfl ?_
  refine gP_get_text X dX3_readItself_1 hinX30 hl9 rfl ?_
  refine g_aload_n X dX3_readItself_4 rfl 0 rfl rfl ?_
  refine gP_get_at X dX3_readItself_5 hinX30 hl40 rfl ?_
  refine gP_ld_text X dX3_readItself_8 (by first | rfl | assumption) (by omega) rfl ?_
  refine g_iload_n X dX3_readItself_9 rfl 1 rfl rfl ?_
  refine g_icmp_eq X dX3_readItself_10 15 (by decide) rfl (fun h10 => ?_) (fun h10 => ?_)
  · refine g_aload_n X dX3_readItself_15 rfl 0 rfl rfl ?_
    refine g_callVWsq (n := 0) (As := []) (rest := []) X hAg rfl (c_X3_skipSign l D _ _ _ _ _ _ _ hL) gX3_readItself_X3_skipSign rfl (by decide +kernel) ⟨Nat.le_of_ble_eq_true rfl, Nat.le_of_ble_eq_true rfl⟩ 0 rfl rfl  rfl rfl (Nat.le_of_ble_eq_true rfl) dX3_readItself_16 ⟨Nat.le_of_ble_eq_true rfl, Nat.le_of_ble_eq_true rfl⟩ rfl (fun v w hv => ?_)
    obtain ⟨rfl, rfl⟩ := hv
    refine ⟨rfl, ?_⟩
    refine g_st (st' := []) rfl ?_
    refine g_iconst (v := (1 : Int32)) X dX3_readItself_19 (by decide) rfl ?_
    refine g_retW X hr (by first | rfl | exact b2i_nar _) dX3_readItself_20 hAe ?_
    unfold yItself
    first
    | (rw [if_pos (show td pt = ch from h10)]; exact ⟨rfl, rfl⟩)
    | (rw [if_neg (show ¬ td pt = ch from h10)]; exact ⟨rfl, rfl⟩)
  · refine g_iconst (v := (0 : Int32)) X dX3_readItself_13 (by decide) rfl ?_
    refine g_retW X hr (by first | rfl | exact b2i_nar _) dX3_readItself_14 hAe ?_
    unfold yItself
    first
    | (rw [if_pos (show td pt = ch from h10)]; exact ⟨rfl, rfl⟩)
    | (rw [if_neg (show ¬ td pt = ch from h10)]; exact ⟨rfl, rfl⟩)

set_option maxHeartbeats 4000000 in
set_option maxRecDepth 100000 in
theorem c_X3_readNeed (l : Launch) (D : DT) (a : Nat → Nat) (td vl : Nat → Int32) (L pt fl : Nat) (kd : Int32) (hL : L ≤ 80) (hpt : pt < L) (hf4 : fl ≤ 4) : MW l yX3_readNeed wsX3_readNeed 2 41 0 0 D [.ref (a 20)] (wP D a td vl L pt fl kd) (fun v w2 => v = some (.int (b2i (yNeed td (pt, fl, vl)).1)) ∧ w2 = (wP D a td (yNeed td (pt, fl, vl)).2.2.2 L (yNeed td (pt, fl, vl)).2.1 (yNeed td (pt, fl, vl)).2.2.1 kd)) := by
  refine MW.of (cc := cX3_readNeed) (maxL := 1) (ret := (some .boolean)) (lv := [(0, .ref (a 20))]) (by decide +kernel) rfl (Nat.le_of_ble_eq_true rfl) rfl ?_
  intro p e s m below meth c A hAe hAg X hr hmn
  have hinX30 : ∀ w ∈ wsX30, w ∈ wsX3_readNeed := fun w h => List.mem_cons_of_mem _ (List.mem_append_right _ h)
  have hl9 := List.mem_of_getElem? (l := wsX3_readNeed) (i := 1) rfl
  have hl40 := List.mem_of_getElem? (l := wsX3_readNeed) (i := 2) rfl
  refine g_aload_n X dX3_readNeed_0 rfl 0 rfl rfl ?_
  refine gP_get_text X dX3_readNeed_1 hinX30 hl9 rfl ?_
  refine g_aload_n X dX3_readNeed_4 rfl 0 rfl rfl ?_
  refine gP_get_at X dX3_readNeed_5 hinX30 hl40 rfl ?_
  refine gP_ld_text X dX3_readNeed_8 (by first | rfl | assumption) (by omega) rfl ?_
  refine g_bipush (v := (114 : Int32)) X dX3_readNeed_9 (by decide) rfl ?_
  refine g_icmp_ne X dX3_readNeed_11 20 (by decide) rfl (fun h11 => ?_) (fun h11 => ?_)
  · refine g_aload_n X dX3_readNeed_20 rfl 0 rfl rfl ?_
    refine gP_get_text X dX3_readNeed_21 hinX30 hl9 rfl ?_
    refine g_aload_n X dX3_readNeed_24 rfl 0 rfl rfl ?_
    refine gP_get_at X dX3_readNeed_25 hinX30 hl40 rfl ?_
    refine gP_ld_text X dX3_readNeed_28 (by first | rfl | assumption) (by omega) rfl ?_
    refine g_bipush (v := (119 : Int32)) X dX3_readNeed_29 (by decide) rfl ?_
    refine g_icmp_ne X dX3_readNeed_31 46 (by decide) rfl (fun h31 => ?_) (fun h31 => ?_)
    · refine g_iconst (v := (0 : Int32)) X dX3_readNeed_46 (by decide) rfl ?_
      refine g_retW X hr (by first | rfl | exact b2i_nar _) dX3_readNeed_47 hAe ?_
      unfold yNeed
      first
      | (rw [if_pos (show td pt = 114 from h11)]; exact ⟨rfl, rfl⟩)
      | (rw [if_neg (show ¬ td pt = 114 from h11), if_pos (show td pt = 119 from h31)]; exact ⟨rfl, rfl⟩)
      | (rw [if_neg (show ¬ td pt = 114 from h11), if_neg (show ¬ td pt = 119 from h31)]; exact ⟨rfl, rfl⟩)
    · refine g_aload_n X dX3_readNeed_34 rfl 0 rfl rfl ?_
      refine g_iconst (v := (2 : Int32)) X dX3_readNeed_35 (by decide) rfl ?_
      refine g_callVWsq (n := 1) (As := [_]) (rest := []) X hAg rfl (c_X3_take l D _ _ _ _ _ _ _ hL _ (by omega)) gX3_readNeed_X3_take rfl (by decide +kernel) ⟨Nat.le_of_ble_eq_true rfl, Nat.le_of_ble_eq_true rfl⟩ 0 rfl rfl  rfl rfl (Nat.le_of_ble_eq_true rfl) dX3_readNeed_36 ⟨Nat.le_of_ble_eq_true rfl, Nat.le_of_ble_eq_true rfl⟩ rfl (fun v w hv => ?_)
      obtain ⟨rfl, rfl⟩ := hv
      refine ⟨rfl, ?_⟩
      refine g_st (st' := [_]) rfl ?_
      refine g_if_eq X dX3_readNeed_39 46 (by decide) rfl (fun h39 => absurd h39 (by decide)) (fun h39 => ?_)
      refine g_iconst (v := (1 : Int32)) X dX3_readNeed_42 (by decide) rfl ?_
      refine g_goto X dX3_readNeed_43 47 (by decide) ?_
      refine g_retW X hr (by first | rfl | exact b2i_nar _) dX3_readNeed_47 hAe ?_
      unfold yNeed
      first
      | (rw [if_pos (show td pt = 114 from h11)]; exact ⟨rfl, rfl⟩)
      | (rw [if_neg (show ¬ td pt = 114 from h11), if_pos (show td pt = 119 from h31)]; exact ⟨rfl, rfl⟩)
      | (rw [if_neg (show ¬ td pt = 114 from h11), if_neg (show ¬ td pt = 119 from h31)]; exact ⟨rfl, rfl⟩)
  · refine g_aload_n X dX3_readNeed_14 rfl 0 rfl rfl ?_
    refine g_iconst (v := (1 : Int32)) X dX3_readNeed_15 (by decide) rfl ?_
    refine g_callVWsq (n := 1) (As := [_]) (rest := []) X hAg rfl (c_X3_take l D _ _ _ _ _ _ _ hL _ (by omega)) gX3_readNeed_X3_take rfl (by decide +kernel) ⟨Nat.le_of_ble_eq_true rfl, Nat.le_of_ble_eq_true rfl⟩ 0 rfl rfl  rfl rfl (Nat.le_of_ble_eq_true rfl) dX3_readNeed_16 ⟨Nat.le_of_ble_eq_true rfl, Nat.le_of_ble_eq_true rfl⟩ rfl (fun v w hv => ?_)
    obtain ⟨rfl, rfl⟩ := hv
    refine ⟨rfl, ?_⟩
    refine g_st (st' := [_]) rfl ?_
    refine g_retW X hr (by first | rfl | exact b2i_nar _) dX3_readNeed_19 hAe ?_
    unfold yNeed
    first
    | (rw [if_pos (show td pt = 114 from h11)]; exact ⟨rfl, rfl⟩)
    | (rw [if_neg (show ¬ td pt = 114 from h11), if_pos (show td pt = 119 from h31)]; exact ⟨rfl, rfl⟩)
    | (rw [if_neg (show ¬ td pt = 114 from h11), if_neg (show ¬ td pt = 119 from h31)]; exact ⟨rfl, rfl⟩)

set_option maxHeartbeats 4000000 in
set_option maxRecDepth 100000 in
theorem c_X3_readDigit (l : Launch) (D : DT) (a : Nat → Nat) (td vl : Nat → Int32) (L pt fl : Nat) (kd : Int32) (hL : L ≤ 80) (hpt : pt < L) (lo hi : Int32) (hf4 : fl ≤ 4) : MW l yX3_readDigit wsX3_readDigit 2 41 0 0 D [.ref (a 20), .int lo, .int hi] (wP D a td vl L pt fl kd) (fun v w2 => v = some (.int (b2i (yDigit td lo hi (pt, fl, vl)).1)) ∧ w2 = (wP D a td (yDigit td lo hi (pt, fl, vl)).2.2.2 L (yDigit td lo hi (pt, fl, vl)).2.1 (yDigit td lo hi (pt, fl, vl)).2.2.1 kd)) := by
  refine MW.of (cc := cX3_readDigit) (maxL := 4) (ret := (some .boolean)) (lv := [(0, .ref (a 20)), (1, .int lo), (2, .int hi)]) (by decide +kernel) rfl (Nat.le_of_ble_eq_true rfl) rfl ?_
  intro p e s m below meth c A hAe hAg X hr hmn
  have hinX30 : ∀ w ∈ wsX30, w ∈ wsX3_readDigit := fun w h => List.mem_cons_of_mem _ (List.mem_append_right _ h)
  have hl9 := List.mem_of_getElem? (l := wsX3_readDigit) (i := 1) rfl
  have hl40 := List.mem_of_getElem? (l := wsX3_readDigit) (i := 2) rfl
  refine g_aload_n X dX3_readDigit_0 rfl 0 rfl rfl ?_
  refine gP_get_text X dX3_readDigit_1 hinX30 hl9 rfl ?_
  refine g_aload_n X dX3_readDigit_4 rfl 0 rfl rfl ?_
  refine gP_get_at X dX3_readDigit_5 hinX30 hl40 rfl ?_
  refine gP_ld_text X dX3_readDigit_8 (by first | rfl | assumption) (by omega) rfl ?_
  refine g_istore_n X [(3, _), (0, _), (1, _), (2, _)] dX3_readDigit_9 rfl (by decide) rfl rfl ?_
  refine g_iload_n X dX3_readDigit_10 rfl 0 rfl rfl ?_
  refine g_iload_n X dX3_readDigit_11 rfl 2 rfl rfl ?_
  refine g_icmp_lt X dX3_readDigit_12 35 (by decide) rfl (fun h12 => ?_) (fun h12 => ?_)
  · have i12 : _ < _ := ic_lt h12
    refine g_iconst (v := (0 : Int32)) X dX3_readDigit_35 (by decide) rfl ?_
    refine g_retW X hr (by first | rfl | exact b2i_nar _) dX3_readDigit_36 hAe ?_
    unfold yDigit
    first
    | (rw [if_pos (show inB (td pt) lo hi = true from decide_eq_true ⟨by omega, by omega⟩)]; exact ⟨rfl, rfl⟩)
    | (rw [if_neg (show ¬ inB (td pt) lo hi = true from fun z => by have := of_decide_eq_true z; omega)]; exact ⟨rfl, rfl⟩)
  · have i12 : _ ≤ _ := ic_nlt h12
    refine g_iload_n X dX3_readDigit_15 rfl 0 rfl rfl ?_
    refine g_iload_n X dX3_readDigit_16 rfl 3 rfl rfl ?_
    refine g_icmp_gt X dX3_readDigit_17 35 (by decide) rfl (fun h17 => ?_) (fun h17 => ?_)
    · have i17 : _ < _ := ic_lt h17
      refine g_iconst (v := (0 : Int32)) X dX3_readDigit_35 (by decide) rfl ?_
      refine g_retW X hr (by first | rfl | exact b2i_nar _) dX3_readDigit_36 hAe ?_
      unfold yDigit
      first
      | (rw [if_pos (show inB (td pt) lo hi = true from decide_eq_true ⟨by omega, by omega⟩)]; exact ⟨rfl, rfl⟩)
      | (rw [if_neg (show ¬ inB (td pt) lo hi = true from fun z => by have := of_decide_eq_true z; omega)]; exact ⟨rfl, rfl⟩)
    · have i17 : _ ≤ _ := ic_nlt h17
      refine g_aload_n X dX3_readDigit_20 rfl 1 rfl rfl ?_
      refine g_iload_n X dX3_readDigit_21 rfl 0 rfl rfl ?_
      refine g_bipush (v := (48 : Int32)) X dX3_readDigit_22 (by decide) rfl ?_
      refine g_isub X dX3_readDigit_24 rfl ?_
      refine g_callVWsq (n := 1) (As := [_]) (rest := []) X hAg rfl (c_X3_take l D _ _ _ _ _ _ _ hL _ (by omega)) gX3_readDigit_X3_take rfl (by decide +kernel) ⟨Nat.le_of_ble_eq_true rfl, Nat.le_of_ble_eq_true rfl⟩ 0 rfl rfl  rfl rfl (Nat.le_of_ble_eq_true rfl) dX3_readDigit_25 ⟨Nat.le_of_ble_eq_true rfl, Nat.le_of_ble_eq_true rfl⟩ rfl (fun v w hv => ?_)
      obtain ⟨rfl, rfl⟩ := hv
      refine ⟨rfl, ?_⟩
      refine g_st (st' := [_]) rfl ?_
      refine g_if_eq X dX3_readDigit_28 35 (by decide) rfl (fun h28 => absurd h28 (by decide)) (fun h28 => ?_)
      refine g_iconst (v := (1 : Int32)) X dX3_readDigit_31 (by decide) rfl ?_
      refine g_goto X dX3_readDigit_32 36 (by decide) ?_
      refine g_retW X hr (by first | rfl | exact b2i_nar _) dX3_readDigit_36 hAe ?_
      unfold yDigit
      first
      | (rw [if_pos (show inB (td pt) lo hi = true from decide_eq_true ⟨by omega, by omega⟩)]; exact ⟨rfl, rfl⟩)
      | (rw [if_neg (show ¬ inB (td pt) lo hi = true from fun z => by have := of_decide_eq_true z; omega)]; exact ⟨rfl, rfl⟩)

set_option maxHeartbeats 4000000 in
set_option maxRecDepth 100000 in
theorem c_X3_readNumber (l : Launch) (D : DT) (a : Nat → Nat) (td vl : Nat → Int32) (L pt fl : Nat) (kd : Int32) (hL : L ≤ 80) (hpt : pt < L) (hf4 : fl ≤ 4) : MW l yX3_readNumber wsX3_readNumber 2 41 0 0 D [.ref (a 20)] (wP D a td vl L pt fl kd) (fun v w2 => v = some (.int (b2i (yNum td L (pt, fl, vl)).1)) ∧ w2 = (wP D a td (yNum td L (pt, fl, vl)).2.2.2 L (yNum td L (pt, fl, vl)).2.1 (yNum td L (pt, fl, vl)).2.2.1 kd)) := by
  have e48 : ((48 : Int32)).toInt = 48 := rfl
  have e57 : ((57 : Int32)).toInt = 57 := rfl
  refine MW.of (cc := cX3_readNumber) (maxL := 3) (ret := (some .boolean)) (lv := [(0, .ref (a 20))]) (by decide +kernel) rfl (Nat.le_of_ble_eq_true rfl) rfl ?_
  intro p e s m below meth c A hAe hAg X hr hmn
  have hinX30 : ∀ w ∈ wsX30, w ∈ wsX3_readNumber := fun w h => List.mem_cons_of_mem _ (List.mem_append_right _ h)
  have hl9 := List.mem_of_getElem? (l := wsX3_readNumber) (i := 1) rfl
  have hl40 := List.mem_of_getElem? (l := wsX3_readNumber) (i := 2) rfl
  have hl23 := List.mem_of_getElem? (l := wsX3_readNumber) (i := 3) rfl
  refine g_aload_n X dX3_readNumber_0 rfl 0 rfl rfl ?_
  refine gP_get_text X dX3_readNumber_1 hinX30 hl9 rfl ?_
  refine g_aload_n X dX3_readNumber_4 rfl 0 rfl rfl ?_
  refine gP_get_at X dX3_readNumber_5 hinX30 hl40 rfl ?_
  refine gP_ld_text X dX3_readNumber_8 (by first | rfl | assumption) (by omega) rfl ?_
  refine g_istore_n X [(1, _), (0, _)] dX3_readNumber_9 rfl (by decide) rfl rfl ?_
  refine g_iload_n X dX3_readNumber_10 rfl 0 rfl rfl ?_
  refine g_bipush (v := (48 : Int32)) X dX3_readNumber_11 (by decide) rfl ?_
  refine g_icmp_lt X dX3_readNumber_13 22 (by decide) rfl (fun h13 => ?_) (fun h13 => ?_)
  · have i13 : _ < (48 : Int) := ic_lt h13
    refine g_iconst (v := (0 : Int32)) X dX3_readNumber_22 (by decide) rfl ?_
    refine g_retW X hr (by first | rfl | exact b2i_nar _) dX3_readNumber_23 hAe ?_
    first
    | (have hT : yNum td L (pt, fl, vl) = (false, (pt, fl, vl)) := if_neg (show ¬ dgB (td pt) = true from fun z => by have := of_decide_eq_true z; omega)
       rw [hT]; exact ⟨rfl, rfl⟩)
    | (have hD : dgB (td pt) = true := decide_eq_true ⟨by omega, by omega⟩
       have hC : (decide ((0 : Int) < (td pt - 48).toInt) && (decide (pt + 1 < L) && dgB (td (pt + 1)))) = true := Bool.and_eq_true_iff.mpr ⟨decide_eq_true i30, Bool.and_eq_true_iff.mpr ⟨decide_eq_true i43, decide_eq_true ⟨i59, i75⟩⟩⟩
       have hT : yNum td L (pt, fl, vl) = (true, yTake ((td pt - 48) * 10 + (td (pt + 1) - 48)) (pt + 1, fl, vl)) := (if_pos hD).trans (if_pos hC)
       rw [hT]; exact ⟨rfl, rfl⟩)
    | (have hD : dgB (td pt) = true := decide_eq_true ⟨by omega, by omega⟩
       have hC : ¬ (decide ((0 : Int) < (td pt - 48).toInt) && (decide (pt + 1 < L) && dgB (td (pt + 1)))) = true := fun z => by
         obtain ⟨z1, z⟩ := Bool.and_eq_true_iff.mp z
         obtain ⟨z2, z3⟩ := Bool.and_eq_true_iff.mp z
         have z1 := of_decide_eq_true z1
         have z2 : pt + 1 < L := of_decide_eq_true z2
         have z3 := of_decide_eq_true z3
         omega
       have hT : yNum td L (pt, fl, vl) = (true, yTake (td pt - 48) (pt, fl, vl)) := (if_pos hD).trans (if_neg hC)
       rw [hT]; exact ⟨rfl, rfl⟩)
  · have i13 : (48 : Int) ≤ _ := ic_nlt h13
    refine g_iload_n X dX3_readNumber_16 rfl 0 rfl rfl ?_
    refine g_bipush (v := (57 : Int32)) X dX3_readNumber_17 (by decide) rfl ?_
    refine g_icmp_le X dX3_readNumber_19 24 (by decide) rfl (fun h19 => ?_) (fun h19 => ?_)
    · have i19 : _ ≤ (57 : Int) := ic_le h19
      refine g_iload_n X dX3_readNumber_24 rfl 0 rfl rfl ?_
      refine g_bipush (v := (48 : Int32)) X dX3_readNumber_25 (by decide) rfl ?_
      refine g_isub X dX3_readNumber_27 rfl ?_
      refine g_istore_n X [(2, _), (1, _), (0, _)] dX3_readNumber_28 rfl (by decide) rfl rfl ?_
      refine g_iload_n X dX3_readNumber_29 rfl 0 rfl rfl ?_
      refine g_if_le X dX3_readNumber_30 100 (by decide) rfl (fun h30 => ?_) (fun h30 => ?_)
      · have i30 : _ ≤ (0 : Int) := ic_le h30
        refine g_aload_n X dX3_readNumber_100 rfl 2 rfl rfl ?_
        refine g_iload_n X dX3_readNumber_101 rfl 0 rfl rfl ?_
        refine g_callVWsq (n := 1) (As := [_]) (rest := []) X hAg rfl (c_X3_take l D _ _ _ _ _ _ _ hL _ (by omega)) gX3_readNumber_X3_take rfl (by decide +kernel) ⟨Nat.le_of_ble_eq_true rfl, Nat.le_of_ble_eq_true rfl⟩ 0 rfl rfl  rfl rfl (Nat.le_of_ble_eq_true rfl) dX3_readNumber_102 ⟨Nat.le_of_ble_eq_true rfl, Nat.le_of_ble_eq_true rfl⟩ rfl (fun v w hv => ?_)
        obtain ⟨rfl, rfl⟩ := hv
        refine ⟨rfl, ?_⟩
        refine g_st (st' := [_]) rfl ?_
        refine g_retW X hr (by first | rfl | exact b2i_nar _) dX3_readNumber_105 hAe ?_
        first
        | (have hT : yNum td L (pt, fl, vl) = (false, (pt, fl, vl)) := if_neg (show ¬ dgB (td pt) = true from fun z => by have := of_decide_eq_true z; omega)
           rw [hT]; exact ⟨rfl, rfl⟩)
        | (have hD : dgB (td pt) = true := decide_eq_true ⟨by omega, by omega⟩
           have hC : (decide ((0 : Int) < (td pt - 48).toInt) && (decide (pt + 1 < L) && dgB (td (pt + 1)))) = true := Bool.and_eq_true_iff.mpr ⟨decide_eq_true i30, Bool.and_eq_true_iff.mpr ⟨decide_eq_true i43, decide_eq_true ⟨i59, i75⟩⟩⟩
           have hT : yNum td L (pt, fl, vl) = (true, yTake ((td pt - 48) * 10 + (td (pt + 1) - 48)) (pt + 1, fl, vl)) := (if_pos hD).trans (if_pos hC)
           rw [hT]; exact ⟨rfl, rfl⟩)
        | (have hD : dgB (td pt) = true := decide_eq_true ⟨by omega, by omega⟩
           have hC : ¬ (decide ((0 : Int) < (td pt - 48).toInt) && (decide (pt + 1 < L) && dgB (td (pt + 1)))) = true := fun z => by
             obtain ⟨z1, z⟩ := Bool.and_eq_true_iff.mp z
             obtain ⟨z2, z3⟩ := Bool.and_eq_true_iff.mp z
             have z1 := of_decide_eq_true z1
             have z2 : pt + 1 < L := of_decide_eq_true z2
             have z3 := of_decide_eq_true z3
             omega
           have hT : yNum td L (pt, fl, vl) = (true, yTake (td pt - 48) (pt, fl, vl)) := (if_pos hD).trans (if_neg hC)
           rw [hT]; exact ⟨rfl, rfl⟩)
      · have i30 : (0 : Int) < _ := ic_nle h30
        refine g_aload_n X dX3_readNumber_33 rfl 2 rfl rfl ?_
        refine gP_get_at X dX3_readNumber_34 hinX30 hl40 rfl ?_
        refine g_iconst (v := (1 : Int32)) X dX3_readNumber_37 (by decide) rfl ?_
        refine g_iadd X dX3_readNumber_38 rfl ?_
        refine g_topi (y := nI (pt + 1)) (nI_add (pt) (1)) ?_
        refine g_aload_n X dX3_readNumber_39 rfl 2 rfl rfl ?_
        refine gP_get_length X dX3_readNumber_40 hinX30 hl23 rfl ?_
        refine g_icmp_ge X dX3_readNumber_43 100 (by decide) rfl (fun h43 => ?_) (fun h43 => ?_)
        · have i43 := nj_le (a := L) (b := (pt + 1)) (by omega) (by omega) h43
          refine g_aload_n X dX3_readNumber_100 rfl 2 rfl rfl ?_
          refine g_iload_n X dX3_readNumber_101 rfl 0 rfl rfl ?_
          refine g_callVWsq (n := 1) (As := [_]) (rest := []) X hAg rfl (c_X3_take l D _ _ _ _ _ _ _ hL _ (by omega)) gX3_readNumber_X3_take rfl (by decide +kernel) ⟨Nat.le_of_ble_eq_true rfl, Nat.le_of_ble_eq_true rfl⟩ 0 rfl rfl  rfl rfl (Nat.le_of_ble_eq_true rfl) dX3_readNumber_102 ⟨Nat.le_of_ble_eq_true rfl, Nat.le_of_ble_eq_true rfl⟩ rfl (fun v w hv => ?_)
          obtain ⟨rfl, rfl⟩ := hv
          refine ⟨rfl, ?_⟩
          refine g_st (st' := [_]) rfl ?_
          refine g_retW X hr (by first | rfl | exact b2i_nar _) dX3_readNumber_105 hAe ?_
          first
          | (have hT : yNum td L (pt, fl, vl) = (false, (pt, fl, vl)) := if_neg (show ¬ dgB (td pt) = true from fun z => by have := of_decide_eq_true z; omega)
             rw [hT]; exact ⟨rfl, rfl⟩)
          | (have hD : dgB (td pt) = true := decide_eq_true ⟨by omega, by omega⟩
             have hC : (decide ((0 : Int) < (td pt - 48).toInt) && (decide (pt + 1 < L) && dgB (td (pt + 1)))) = true := Bool.and_eq_true_iff.mpr ⟨decide_eq_true i30, Bool.and_eq_true_iff.mpr ⟨decide_eq_true i43, decide_eq_true ⟨i59, i75⟩⟩⟩
             have hT : yNum td L (pt, fl, vl) = (true, yTake ((td pt - 48) * 10 + (td (pt + 1) - 48)) (pt + 1, fl, vl)) := (if_pos hD).trans (if_pos hC)
             rw [hT]; exact ⟨rfl, rfl⟩)
          | (have hD : dgB (td pt) = true := decide_eq_true ⟨by omega, by omega⟩
             have hC : ¬ (decide ((0 : Int) < (td pt - 48).toInt) && (decide (pt + 1 < L) && dgB (td (pt + 1)))) = true := fun z => by
               obtain ⟨z1, z⟩ := Bool.and_eq_true_iff.mp z
               obtain ⟨z2, z3⟩ := Bool.and_eq_true_iff.mp z
               have z1 := of_decide_eq_true z1
               have z2 : pt + 1 < L := of_decide_eq_true z2
               have z3 := of_decide_eq_true z3
               omega
             have hT : yNum td L (pt, fl, vl) = (true, yTake (td pt - 48) (pt, fl, vl)) := (if_pos hD).trans (if_neg hC)
             rw [hT]; exact ⟨rfl, rfl⟩)
        · have i43 := nj_nle (a := L) (b := (pt + 1)) (by omega) (by omega) h43
          refine g_aload_n X dX3_readNumber_46 rfl 2 rfl rfl ?_
          refine gP_get_text X dX3_readNumber_47 hinX30 hl9 rfl ?_
          refine g_aload_n X dX3_readNumber_50 rfl 2 rfl rfl ?_
          refine gP_get_at X dX3_readNumber_51 hinX30 hl40 rfl ?_
          refine g_iconst (v := (1 : Int32)) X dX3_readNumber_54 (by decide) rfl ?_
          refine g_iadd X dX3_readNumber_55 rfl ?_
          refine g_topi (y := nI (pt + 1)) (nI_add (pt) (1)) ?_
          refine gP_ld_text X dX3_readNumber_56 (by first | rfl | assumption) (by omega) rfl ?_
          refine g_bipush (v := (48 : Int32)) X dX3_readNumber_57 (by decide) rfl ?_
          refine g_icmp_lt X dX3_readNumber_59 100 (by decide) rfl (fun h59 => ?_) (fun h59 => ?_)
          · have i59 : _ < (48 : Int) := ic_lt h59
            refine g_aload_n X dX3_readNumber_100 rfl 2 rfl rfl ?_
            refine g_iload_n X dX3_readNumber_101 rfl 0 rfl rfl ?_
            refine g_callVWsq (n := 1) (As := [_]) (rest := []) X hAg rfl (c_X3_take l D _ _ _ _ _ _ _ hL _ (by omega)) gX3_readNumber_X3_take rfl (by decide +kernel) ⟨Nat.le_of_ble_eq_true rfl, Nat.le_of_ble_eq_true rfl⟩ 0 rfl rfl  rfl rfl (Nat.le_of_ble_eq_true rfl) dX3_readNumber_102 ⟨Nat.le_of_ble_eq_true rfl, Nat.le_of_ble_eq_true rfl⟩ rfl (fun v w hv => ?_)
            obtain ⟨rfl, rfl⟩ := hv
            refine ⟨rfl, ?_⟩
            refine g_st (st' := [_]) rfl ?_
            refine g_retW X hr (by first | rfl | exact b2i_nar _) dX3_readNumber_105 hAe ?_
            first
            | (have hT : yNum td L (pt, fl, vl) = (false, (pt, fl, vl)) := if_neg (show ¬ dgB (td pt) = true from fun z => by have := of_decide_eq_true z; omega)
               rw [hT]; exact ⟨rfl, rfl⟩)
            | (have hD : dgB (td pt) = true := decide_eq_true ⟨by omega, by omega⟩
               have hC : (decide ((0 : Int) < (td pt - 48).toInt) && (decide (pt + 1 < L) && dgB (td (pt + 1)))) = true := Bool.and_eq_true_iff.mpr ⟨decide_eq_true i30, Bool.and_eq_true_iff.mpr ⟨decide_eq_true i43, decide_eq_true ⟨i59, i75⟩⟩⟩
               have hT : yNum td L (pt, fl, vl) = (true, yTake ((td pt - 48) * 10 + (td (pt + 1) - 48)) (pt + 1, fl, vl)) := (if_pos hD).trans (if_pos hC)
               rw [hT]; exact ⟨rfl, rfl⟩)
            | (have hD : dgB (td pt) = true := decide_eq_true ⟨by omega, by omega⟩
               have hC : ¬ (decide ((0 : Int) < (td pt - 48).toInt) && (decide (pt + 1 < L) && dgB (td (pt + 1)))) = true := fun z => by
                 obtain ⟨z1, z⟩ := Bool.and_eq_true_iff.mp z
                 obtain ⟨z2, z3⟩ := Bool.and_eq_true_iff.mp z
                 have z1 := of_decide_eq_true z1
                 have z2 : pt + 1 < L := of_decide_eq_true z2
                 have z3 := of_decide_eq_true z3
                 omega
               have hT : yNum td L (pt, fl, vl) = (true, yTake (td pt - 48) (pt, fl, vl)) := (if_pos hD).trans (if_neg hC)
               rw [hT]; exact ⟨rfl, rfl⟩)
          · have i59 : (48 : Int) ≤ _ := ic_nlt h59
            refine g_aload_n X dX3_readNumber_62 rfl 2 rfl rfl ?_
            refine gP_get_text X dX3_readNumber_63 hinX30 hl9 rfl ?_
            refine g_aload_n X dX3_readNumber_66 rfl 2 rfl rfl ?_
            refine gP_get_at X dX3_readNumber_67 hinX30 hl40 rfl ?_
            refine g_iconst (v := (1 : Int32)) X dX3_readNumber_70 (by decide) rfl ?_
            refine g_iadd X dX3_readNumber_71 rfl ?_
            refine g_topi (y := nI (pt + 1)) (nI_add (pt) (1)) ?_
            refine gP_ld_text X dX3_readNumber_72 (by first | rfl | assumption) (by omega) rfl ?_
            refine g_bipush (v := (57 : Int32)) X dX3_readNumber_73 (by decide) rfl ?_
            refine g_icmp_gt X dX3_readNumber_75 100 (by decide) rfl (fun h75 => ?_) (fun h75 => ?_)
            · have i75 : (57 : Int) < _ := ic_lt h75
              refine g_aload_n X dX3_readNumber_100 rfl 2 rfl rfl ?_
              refine g_iload_n X dX3_readNumber_101 rfl 0 rfl rfl ?_
              refine g_callVWsq (n := 1) (As := [_]) (rest := []) X hAg rfl (c_X3_take l D _ _ _ _ _ _ _ hL _ (by omega)) gX3_readNumber_X3_take rfl (by decide +kernel) ⟨Nat.le_of_ble_eq_true rfl, Nat.le_of_ble_eq_true rfl⟩ 0 rfl rfl  rfl rfl (Nat.le_of_ble_eq_true rfl) dX3_readNumber_102 ⟨Nat.le_of_ble_eq_true rfl, Nat.le_of_ble_eq_true rfl⟩ rfl (fun v w hv => ?_)
              obtain ⟨rfl, rfl⟩ := hv
              refine ⟨rfl, ?_⟩
              refine g_st (st' := [_]) rfl ?_
              refine g_retW X hr (by first | rfl | exact b2i_nar _) dX3_readNumber_105 hAe ?_
              first
              | (have hT : yNum td L (pt, fl, vl) = (false, (pt, fl, vl)) := if_neg (show ¬ dgB (td pt) = true from fun z => by have := of_decide_eq_true z; omega)
                 rw [hT]; exact ⟨rfl, rfl⟩)
              | (have hD : dgB (td pt) = true := decide_eq_true ⟨by omega, by omega⟩
                 have hC : (decide ((0 : Int) < (td pt - 48).toInt) && (decide (pt + 1 < L) && dgB (td (pt + 1)))) = true := Bool.and_eq_true_iff.mpr ⟨decide_eq_true i30, Bool.and_eq_true_iff.mpr ⟨decide_eq_true i43, decide_eq_true ⟨i59, i75⟩⟩⟩
                 have hT : yNum td L (pt, fl, vl) = (true, yTake ((td pt - 48) * 10 + (td (pt + 1) - 48)) (pt + 1, fl, vl)) := (if_pos hD).trans (if_pos hC)
                 rw [hT]; exact ⟨rfl, rfl⟩)
              | (have hD : dgB (td pt) = true := decide_eq_true ⟨by omega, by omega⟩
                 have hC : ¬ (decide ((0 : Int) < (td pt - 48).toInt) && (decide (pt + 1 < L) && dgB (td (pt + 1)))) = true := fun z => by
                   obtain ⟨z1, z⟩ := Bool.and_eq_true_iff.mp z
                   obtain ⟨z2, z3⟩ := Bool.and_eq_true_iff.mp z
                   have z1 := of_decide_eq_true z1
                   have z2 : pt + 1 < L := of_decide_eq_true z2
                   have z3 := of_decide_eq_true z3
                   omega
                 have hT : yNum td L (pt, fl, vl) = (true, yTake (td pt - 48) (pt, fl, vl)) := (if_pos hD).trans (if_neg hC)
                 rw [hT]; exact ⟨rfl, rfl⟩)
            · have i75 : _ ≤ (57 : Int) := ic_nlt h75
              refine g_aload_n X dX3_readNumber_78 rfl 2 rfl rfl ?_
              refine g_callVWsq (n := 0) (As := []) (rest := []) X hAg rfl (c_X3_skipSign l D _ _ _ _ _ _ _ hL) gX3_readNumber_X3_skipSign rfl (by decide +kernel) ⟨Nat.le_of_ble_eq_true rfl, Nat.le_of_ble_eq_true rfl⟩ 0 rfl rfl  rfl rfl (Nat.le_of_ble_eq_true rfl) dX3_readNumber_79 ⟨Nat.le_of_ble_eq_true rfl, Nat.le_of_ble_eq_true rfl⟩ rfl (fun v w hv => ?_)
              obtain ⟨rfl, rfl⟩ := hv
              refine ⟨rfl, ?_⟩
              refine g_st (st' := []) rfl ?_
              refine g_iload_n X dX3_readNumber_82 rfl 0 rfl rfl ?_
              refine g_bipush (v := (10 : Int32)) X dX3_readNumber_83 (by decide) rfl ?_
              refine g_imul X dX3_readNumber_85 rfl ?_
              refine g_aload_n X dX3_readNumber_86 rfl 2 rfl rfl ?_
              refine gP_get_text X dX3_readNumber_87 hinX30 hl9 rfl ?_
              refine g_aload_n X dX3_readNumber_90 rfl 2 rfl rfl ?_
              refine gP_get_at X dX3_readNumber_91 hinX30 hl40 rfl ?_
              refine gP_ld_text X dX3_readNumber_94 (by first | rfl | assumption) (by omega) rfl ?_
              refine g_bipush (v := (48 : Int32)) X dX3_readNumber_95 (by decide) rfl ?_
              refine g_isub X dX3_readNumber_97 rfl ?_
              refine g_iadd X dX3_readNumber_98 rfl ?_
              refine g_istore_n X [(2, _), (1, _), (0, _)] dX3_readNumber_99 rfl (by decide) rfl rfl ?_
              refine g_aload_n X dX3_readNumber_100 rfl 2 rfl rfl ?_
              refine g_iload_n X dX3_readNumber_101 rfl 0 rfl rfl ?_
              refine g_callVWsq (n := 1) (As := [_]) (rest := []) X hAg rfl (c_X3_take l D _ _ _ _ _ _ _ hL _ (by omega)) gX3_readNumber_X3_take rfl (by decide +kernel) ⟨Nat.le_of_ble_eq_true rfl, Nat.le_of_ble_eq_true rfl⟩ 0 rfl rfl  rfl rfl (Nat.le_of_ble_eq_true rfl) dX3_readNumber_102 ⟨Nat.le_of_ble_eq_true rfl, Nat.le_of_ble_eq_true rfl⟩ rfl (fun v w hv => ?_)
              obtain ⟨rfl, rfl⟩ := hv
              refine ⟨rfl, ?_⟩
              refine g_st (st' := [_]) rfl ?_
              refine g_retW X hr (by first | rfl | exact b2i_nar _) dX3_readNumber_105 hAe ?_
              first
              | (have hT : yNum td L (pt, fl, vl) = (false, (pt, fl, vl)) := if_neg (show ¬ dgB (td pt) = true from fun z => by have := of_decide_eq_true z; omega)
                 rw [hT]; exact ⟨rfl, rfl⟩)
              | (have hD : dgB (td pt) = true := decide_eq_true ⟨by omega, by omega⟩
                 have hC : (decide ((0 : Int) < (td pt - 48).toInt) && (decide (pt + 1 < L) && dgB (td (pt + 1)))) = true := Bool.and_eq_true_iff.mpr ⟨decide_eq_true i30, Bool.and_eq_true_iff.mpr ⟨decide_eq_true i43, decide_eq_true ⟨i59, i75⟩⟩⟩
                 have hT : yNum td L (pt, fl, vl) = (true, yTake ((td pt - 48) * 10 + (td (pt + 1) - 48)) (pt + 1, fl, vl)) := (if_pos hD).trans (if_pos hC)
                 rw [hT]; exact ⟨rfl, rfl⟩)
              | (have hD : dgB (td pt) = true := decide_eq_true ⟨by omega, by omega⟩
                 have hC : ¬ (decide ((0 : Int) < (td pt - 48).toInt) && (decide (pt + 1 < L) && dgB (td (pt + 1)))) = true := fun z => by
                   obtain ⟨z1, z⟩ := Bool.and_eq_true_iff.mp z
                   obtain ⟨z2, z3⟩ := Bool.and_eq_true_iff.mp z
                   have z1 := of_decide_eq_true z1
                   have z2 : pt + 1 < L := of_decide_eq_true z2
                   have z3 := of_decide_eq_true z3
                   omega
                 have hT : yNum td L (pt, fl, vl) = (true, yTake (td pt - 48) (pt, fl, vl)) := (if_pos hD).trans (if_neg hC)
                 rw [hT]; exact ⟨rfl, rfl⟩)
    · have i19 : (57 : Int) < _ := ic_nle h19
      refine g_iconst (v := (0 : Int32)) X dX3_readNumber_22 (by decide) rfl ?_
      refine g_retW X hr (by first | rfl | exact b2i_nar _) dX3_readNumber_23 hAe ?_
      first
      | (have hT : yNum td L (pt, fl, vl) = (false, (pt, fl, vl)) := if_neg (show ¬ dgB (td pt) = true from fun z => by have := of_decide_eq_true z; omega)
         rw [hT]; exact ⟨rfl, rfl⟩)
      | (have hD : dgB (td pt) = true := decide_eq_true ⟨by omega, by omega⟩
         have hC : (decide ((0 : Int) < (td pt - 48).toInt) && (decide (pt + 1 < L) && dgB (td (pt + 1)))) = true := Bool.and_eq_true_iff.mpr ⟨decide_eq_true i30, Bool.and_eq_true_iff.mpr ⟨decide_eq_true i43, decide_eq_true ⟨i59, i75⟩⟩⟩
         have hT : yNum td L (pt, fl, vl) = (true, yTake ((td pt - 48) * 10 + (td (pt + 1) - 48)) (pt + 1, fl, vl)) := (if_pos hD).trans (if_pos hC)
         rw [hT]; exact ⟨rfl, rfl⟩)
      | (have hD : dgB (td pt) = true := decide_eq_true ⟨by omega, by omega⟩
         have hC : ¬ (decide ((0 : Int) < (td pt - 48).toInt) && (decide (pt + 1 < L) && dgB (td (pt + 1)))) = true := fun z => by
           obtain ⟨z1, z⟩ := Bool.and_eq_true_iff.mp z
           obtain ⟨z2, z3⟩ := Bool.and_eq_true_iff.mp z
           have z1 := of_decide_eq_true z1
           have z2 : pt + 1 < L := of_decide_eq_true z2
           have z3 := of_decide_eq_true z3
           omega
         have hT : yNum td L (pt, fl, vl) = (true, yTake (td pt - 48) (pt, fl, vl)) := (if_pos hD).trans (if_neg hC)
         rw [hT]; exact ⟨rfl, rfl⟩)

set_option maxHeartbeats 4000000 in
set_option maxRecDepth 100000 in
theorem c_X3_readPart (l : Launch) (D : DT) (a : Nat → Nat) (td vl : Nat → Int32) (L pt fl : Nat) (kd : Int32) (hL : L ≤ 80) (hpt : pt < L) (ch : Int32) (hf4 : fl ≤ 4) : MW l yX3_readPart wsX3_readPart 3 64 0 0 D [.ref (a 20), .int ch] (wP D a td vl L pt fl kd) (fun v w2 => v = some (.int (b2i (yPart td L ch (pt, fl, vl)).1)) ∧ w2 = (wP D a td (yPart td L ch (pt, fl, vl)).2.2.2 L (yPart td L ch (pt, fl, vl)).2.1 (yPart td L ch (pt, fl, vl)).2.2.1 kd)) := by
  refine MW.of (cc := cX3_readPart) (maxL := 3) (ret := (some .boolean)) (lv := [(0, .ref (a 20)), (1, .int ch)]) (by decide +kernel) rfl (Nat.le_of_ble_eq_true rfl) rfl ?_
  intro p e s m below meth c A hAe hAg X hr hmn
  have hinX30 : ∀ w ∈ wsX30, w ∈ wsX3_readPart := fun w h => List.mem_cons_of_mem _ (List.mem_append_right _ h)
  have hl9 := List.mem_of_getElem? (l := wsX3_readPart) (i := 1) rfl
  have hl40 := List.mem_of_getElem? (l := wsX3_readPart) (i := 2) rfl
  refine g_aload_n X dX3_readPart_0 rfl 0 rfl rfl ?_
  refine gP_get_text X dX3_readPart_1 hinX30 hl9 rfl ?_
  refine g_aload_n X dX3_readPart_4 rfl 0 rfl rfl ?_
  refine gP_get_at X dX3_readPart_5 hinX30 hl40 rfl ?_
  refine gP_ld_text X dX3_readPart_8 (by first | rfl | assumption) (by omega) rfl ?_
  refine g_istore_n X [(2, _), (0, _), (1, _)] dX3_readPart_9 rfl (by decide) rfl rfl ?_
  refine g_iload_n X dX3_readPart_10 rfl 2 rfl rfl ?_
  rcases Classical.em (ch = (71 : Int32)) with ec11 | ne71
  · refine g_lookup X dX3_readPart_11 (by decide) (off := 99) (by rw [ec11]; decide) 110 (by decide) ?_
    refine g_iload_n X dX3_readPart_110 rfl 0 rfl rfl ?_
    refine g_bipush (v := (45 : Int32)) X dX3_readPart_111 (by decide) rfl ?_
    refine g_icmp_ne X dX3_readPart_113 125 (by decide) rfl (fun h113 => ?_) (fun h113 => ?_)
    · refine g_aload_n X dX3_readPart_125 rfl 1 rfl rfl ?_
      refine g_bipush (v := (48 : Int32)) X dX3_readPart_126 (by decide) rfl ?_
      refine g_bipush (v := (53 : Int32)) X dX3_readPart_128 (by decide) rfl ?_
      refine g_callVWsq (n := 2) (As := [_, _]) (rest := []) X hAg rfl (c_X3_readDigit l D _ _ _ _ _ _ _ hL hpt _ _ hf4) gX3_readPart_X3_readDigit rfl (by decide +kernel) ⟨Nat.le_of_ble_eq_true rfl, Nat.le_of_ble_eq_true rfl⟩ 0 rfl rfl  rfl rfl (Nat.le_of_ble_eq_true rfl) dX3_readPart_130 ⟨Nat.le_of_ble_eq_true rfl, Nat.le_of_ble_eq_true rfl⟩ rfl (fun v w hv => ?_)
      obtain ⟨rfl, rfl⟩ := hv
      refine ⟨rfl, ?_⟩
      refine g_st (st' := [_]) rfl ?_
      refine g_retW X hr (by first | rfl | exact b2i_nar _) dX3_readPart_133 hAe ?_
      unfold yPart
      rw [if_pos ec11]
      unfold yOr
      first
      | (rw [if_pos (show td pt = 45 from h113)]; exact ⟨rfl, rfl⟩)
      | (rw [if_neg (show ¬ td pt = 45 from h113)]; exact ⟨rfl, rfl⟩)
    · refine g_aload_n X dX3_readPart_116 rfl 1 rfl rfl ?_
      refine g_bipush (v := ((-6) : Int32)) X dX3_readPart_117 (by decide) rfl ?_
      refine g_callVWsq (n := 1) (As := [_]) (rest := []) X hAg rfl (c_X3_take l D _ _ _ _ _ _ _ hL _ hf4) gX3_readPart_X3_take rfl (by decide +kernel) ⟨Nat.le_of_ble_eq_true rfl, Nat.le_of_ble_eq_true rfl⟩ 0 rfl rfl  rfl rfl (Nat.le_of_ble_eq_true rfl) dX3_readPart_119 ⟨Nat.le_of_ble_eq_true rfl, Nat.le_of_ble_eq_true rfl⟩ rfl (fun v w hv => ?_)
      obtain ⟨rfl, rfl⟩ := hv
      refine ⟨rfl, ?_⟩
      refine g_st (st' := [_]) rfl ?_
      refine g_goto X dX3_readPart_122 133 (by decide) ?_
      refine g_retW X hr (by first | rfl | exact b2i_nar _) dX3_readPart_133 hAe ?_
      unfold yPart
      rw [if_pos ec11]
      unfold yOr
      first
      | (rw [if_pos (show td pt = 45 from h113)]; exact ⟨rfl, rfl⟩)
      | (rw [if_neg (show ¬ td pt = 45 from h113)]; exact ⟨rfl, rfl⟩)
  · rcases Classical.em (ch = (78 : Int32)) with ec11 | ne78
    · refine g_lookup X dX3_readPart_11 (by decide) (off := 70) (by rw [ec11]; decide) 81 (by decide) ?_
      refine g_iload_n X dX3_readPart_81 rfl 0 rfl rfl ?_
      refine g_bipush (v := (45 : Int32)) X dX3_readPart_82 (by decide) rfl ?_
      refine g_icmp_ne X dX3_readPart_84 96 (by decide) rfl (fun h84 => ?_) (fun h84 => ?_)
      · refine g_aload_n X dX3_readPart_96 rfl 1 rfl rfl ?_
        refine g_callVWsq (n := 0) (As := []) (rest := []) X hAg rfl (c_X3_readNumber l D _ _ _ _ _ _ _ hL hpt hf4) gX3_readPart_X3_readNumber rfl (by decide +kernel) ⟨Nat.le_of_ble_eq_true rfl, Nat.le_of_ble_eq_true rfl⟩ 0 rfl rfl  rfl rfl (Nat.le_of_ble_eq_true rfl) dX3_readPart_97 ⟨Nat.le_of_ble_eq_true rfl, Nat.le_of_ble_eq_true rfl⟩ rfl (fun v w hv => ?_)
        obtain ⟨rfl, rfl⟩ := hv
        refine ⟨rfl, ?_⟩
        refine g_st (st' := [_]) rfl ?_
        refine g_retW X hr (by first | rfl | exact b2i_nar _) dX3_readPart_100 hAe ?_
        unfold yPart
        rw [if_neg (by rw [ec11]; decide), if_pos ec11]
        unfold yOr
        first
        | (rw [if_pos (show td pt = 45 from h84)]; exact ⟨rfl, rfl⟩)
        | (rw [if_neg (show ¬ td pt = 45 from h84)]; exact ⟨rfl, rfl⟩)
      · refine g_aload_n X dX3_readPart_87 rfl 1 rfl rfl ?_
        refine g_bipush (v := ((-6) : Int32)) X dX3_readPart_88 (by decide) rfl ?_
        refine g_callVWsq (n := 1) (As := [_]) (rest := []) X hAg rfl (c_X3_take l D _ _ _ _ _ _ _ hL _ hf4) gX3_readPart_X3_take rfl (by decide +kernel) ⟨Nat.le_of_ble_eq_true rfl, Nat.le_of_ble_eq_true rfl⟩ 0 rfl rfl  rfl rfl (Nat.le_of_ble_eq_true rfl) dX3_readPart_90 ⟨Nat.le_of_ble_eq_true rfl, Nat.le_of_ble_eq_true rfl⟩ rfl (fun v w hv => ?_)
        obtain ⟨rfl, rfl⟩ := hv
        refine ⟨rfl, ?_⟩
        refine g_st (st' := [_]) rfl ?_
        refine g_goto X dX3_readPart_93 100 (by decide) ?_
        refine g_retW X hr (by first | rfl | exact b2i_nar _) dX3_readPart_100 hAe ?_
        unfold yPart
        rw [if_neg (by rw [ec11]; decide), if_pos ec11]
        unfold yOr
        first
        | (rw [if_pos (show td pt = 45 from h84)]; exact ⟨rfl, rfl⟩)
        | (rw [if_neg (show ¬ td pt = 45 from h84)]; exact ⟨rfl, rfl⟩)
    · rcases Classical.em (ch = (97 : Int32)) with ec11 | ne97
      · refine g_lookup X dX3_readPart_11 (by decide) (off := 141) (by rw [ec11]; decide) 152 (by decide) ?_
        refine g_aload_n X dX3_readPart_152 rfl 1 rfl rfl ?_
        refine g_callVWsq (n := 0) (As := []) (rest := []) X hAg rfl (c_X3_readNeed l D _ _ _ _ _ _ _ hL hpt hf4) gX3_readPart_X3_readNeed rfl (by decide +kernel) ⟨Nat.le_of_ble_eq_true rfl, Nat.le_of_ble_eq_true rfl⟩ 0 rfl rfl  rfl rfl (Nat.le_of_ble_eq_true rfl) dX3_readPart_153 ⟨Nat.le_of_ble_eq_true rfl, Nat.le_of_ble_eq_true rfl⟩ rfl (fun v w hv => ?_)
        obtain ⟨rfl, rfl⟩ := hv
        refine ⟨rfl, ?_⟩
        refine g_st (st' := [_]) rfl ?_
        refine g_retW X hr (by first | rfl | exact b2i_nar _) dX3_readPart_156 hAe ?_
        unfold yPart
        rw [if_neg (by rw [ec11]; decide), if_neg (by rw [ec11]; decide), if_pos ec11]
        exact ⟨rfl, rfl⟩
      · rcases Classical.em (ch = (100 : Int32)) with ec11 | ne100
        · refine g_lookup X dX3_readPart_11 (by decide) (off := 123) (by rw [ec11]; decide) 134 (by decide) ?_
          refine g_aload_n X dX3_readPart_134 rfl 1 rfl rfl ?_
          refine g_bipush (v := (48 : Int32)) X dX3_readPart_135 (by decide) rfl ?_
          refine g_bipush (v := (57 : Int32)) X dX3_readPart_137 (by decide) rfl ?_
          refine g_callVWsq (n := 2) (As := [_, _]) (rest := []) X hAg rfl (c_X3_readDigit l D _ _ _ _ _ _ _ hL hpt _ _ hf4) gX3_readPart_X3_readDigit rfl (by decide +kernel) ⟨Nat.le_of_ble_eq_true rfl, Nat.le_of_ble_eq_true rfl⟩ 0 rfl rfl  rfl rfl (Nat.le_of_ble_eq_true rfl) dX3_readPart_139 ⟨Nat.le_of_ble_eq_true rfl, Nat.le_of_ble_eq_true rfl⟩ rfl (fun v w hv => ?_)
          obtain ⟨rfl, rfl⟩ := hv
          refine ⟨rfl, ?_⟩
          refine g_st (st' := [_]) rfl ?_
          refine g_retW X hr (by first | rfl | exact b2i_nar _) dX3_readPart_142 hAe ?_
          unfold yPart
          rw [if_neg (by rw [ec11]; decide), if_neg (by rw [ec11]; decide), if_neg (by rw [ec11]; decide), if_pos ec11]
          exact ⟨rfl, rfl⟩
        · rcases Classical.em (ch = (102 : Int32)) with ec11 | ne102
          · refine g_lookup X dX3_readPart_11 (by decide) (off := 132) (by rw [ec11]; decide) 143 (by decide) ?_
            refine g_aload_n X dX3_readPart_143 rfl 1 rfl rfl ?_
            refine g_bipush (v := (49 : Int32)) X dX3_readPart_144 (by decide) rfl ?_
            refine g_bipush (v := (55 : Int32)) X dX3_readPart_146 (by decide) rfl ?_
            refine g_callVWsq (n := 2) (As := [_, _]) (rest := []) X hAg rfl (c_X3_readDigit l D _ _ _ _ _ _ _ hL hpt _ _ hf4) gX3_readPart_X3_readDigit rfl (by decide +kernel) ⟨Nat.le_of_ble_eq_true rfl, Nat.le_of_ble_eq_true rfl⟩ 0 rfl rfl  rfl rfl (Nat.le_of_ble_eq_true rfl) dX3_readPart_148 ⟨Nat.le_of_ble_eq_true rfl, Nat.le_of_ble_eq_true rfl⟩ rfl (fun v w hv => ?_)
            obtain ⟨rfl, rfl⟩ := hv
            refine ⟨rfl, ?_⟩
            refine g_st (st' := [_]) rfl ?_
            refine g_retW X hr (by first | rfl | exact b2i_nar _) dX3_readPart_151 hAe ?_
            unfold yPart
            rw [if_neg (by rw [ec11]; decide), if_neg (by rw [ec11]; decide), if_neg (by rw [ec11]; decide), if_neg (by rw [ec11]; decide), if_pos ec11]
            exact ⟨rfl, rfl⟩
          · rcases Classical.em (ch = (103 : Int32)) with ec11 | ne103
            · refine g_lookup X dX3_readPart_11 (by decide) (off := 90) (by rw [ec11]; decide) 101 (by decide) ?_
              refine g_aload_n X dX3_readPart_101 rfl 1 rfl rfl ?_
              refine g_bipush (v := (48 : Int32)) X dX3_readPart_102 (by decide) rfl ?_
              refine g_bipush (v := (53 : Int32)) X dX3_readPart_104 (by decide) rfl ?_
              refine g_callVWsq (n := 2) (As := [_, _]) (rest := []) X hAg rfl (c_X3_readDigit l D _ _ _ _ _ _ _ hL hpt _ _ hf4) gX3_readPart_X3_readDigit rfl (by decide +kernel) ⟨Nat.le_of_ble_eq_true rfl, Nat.le_of_ble_eq_true rfl⟩ 0 rfl rfl  rfl rfl (Nat.le_of_ble_eq_true rfl) dX3_readPart_106 ⟨Nat.le_of_ble_eq_true rfl, Nat.le_of_ble_eq_true rfl⟩ rfl (fun v w hv => ?_)
              obtain ⟨rfl, rfl⟩ := hv
              refine ⟨rfl, ?_⟩
              refine g_st (st' := [_]) rfl ?_
              refine g_retW X hr (by first | rfl | exact b2i_nar _) dX3_readPart_109 hAe ?_
              unfold yPart
              rw [if_neg (by rw [ec11]; decide), if_neg (by rw [ec11]; decide), if_neg (by rw [ec11]; decide), if_neg (by rw [ec11]; decide), if_neg (by rw [ec11]; decide), if_pos ec11]
              exact ⟨rfl, rfl⟩
            · rcases Classical.em (ch = (110 : Int32)) with ec11 | ne110
              · refine g_lookup X dX3_readPart_11 (by decide) (off := 65) (by rw [ec11]; decide) 76 (by decide) ?_
                refine g_aload_n X dX3_readPart_76 rfl 1 rfl rfl ?_
                refine g_callVWsq (n := 0) (As := []) (rest := []) X hAg rfl (c_X3_readNumber l D _ _ _ _ _ _ _ hL hpt hf4) gX3_readPart_X3_readNumber rfl (by decide +kernel) ⟨Nat.le_of_ble_eq_true rfl, Nat.le_of_ble_eq_true rfl⟩ 0 rfl rfl  rfl rfl (Nat.le_of_ble_eq_true rfl) dX3_readPart_77 ⟨Nat.le_of_ble_eq_true rfl, Nat.le_of_ble_eq_true rfl⟩ rfl (fun v w hv => ?_)
                obtain ⟨rfl, rfl⟩ := hv
                refine ⟨rfl, ?_⟩
                refine g_st (st' := [_]) rfl ?_
                refine g_retW X hr (by first | rfl | exact b2i_nar _) dX3_readPart_80 hAe ?_
                unfold yPart
                rw [if_neg (by rw [ec11]; decide), if_neg (by rw [ec11]; decide), if_neg (by rw [ec11]; decide), if_neg (by rw [ec11]; decide), if_neg (by rw [ec11]; decide), if_neg (by rw [ec11]; decide), if_pos ec11]
                exact ⟨rfl, rfl⟩
              · refine g_lookup X dX3_readPart_11 (by decide) (off := 146) (by show Op.lookupswitch.offset [(71, 99), (78, 70), (97, 141), (100, 123), (102, 132), (103, 90), (110, 65)] (146) (ch).toInt = (146); rw [lv_osw (a := 71) ne71 rfl, lv_osw (a := 78) ne78 rfl, lv_osw (a := 97) ne97 rfl, lv_osw (a := 100) ne100 rfl, lv_osw (a := 102) ne102 rfl, lv_osw (a := 103) ne103 rfl, lv_osw (a := 110) ne110 rfl]; rfl) 157 (by decide) ?_
                refine g_aload_n X dX3_readPart_157 rfl 1 rfl rfl ?_
                refine g_iload_n X dX3_readPart_158 rfl 2 rfl rfl ?_
                refine g_callVWsq (n := 1) (As := [_]) (rest := []) X hAg rfl (c_X3_readItself l D _ _ _ _ _ _ _ hL hpt _) gX3_readPart_X3_readItself rfl (by decide +kernel) ⟨Nat.le_of_ble_eq_true rfl, Nat.le_of_ble_eq_true rfl⟩ 0 rfl rfl  rfl rfl (Nat.le_of_ble_eq_true rfl) dX3_readPart_159 ⟨Nat.le_of_ble_eq_true rfl, Nat.le_of_ble_eq_true rfl⟩ rfl (fun v w hv => ?_)
                obtain ⟨rfl, rfl⟩ := hv
                refine ⟨rfl, ?_⟩
                refine g_st (st' := [_]) rfl ?_
                refine g_retW X hr (by first | rfl | exact b2i_nar _) dX3_readPart_162 hAe ?_
                unfold yPart
                rw [if_neg ne71, if_neg ne78, if_neg ne97, if_neg ne100, if_neg ne102, if_neg ne103, if_neg ne110]
                exact ⟨rfl, rfl⟩
