set_option maxHeartbeats 4000000 in
set_option maxRecDepth 100000 in
theorem c_X3_readOrder (l : Launch) (D : DT) (a : Nat → Nat) (td vl : Nat → Int32) (L pt fl : Nat) (kd : Int32) (hL : L ≤ 80) (hpL : pt ≤ L) (hch : ∀ k, k < L → ∃ ch : Nat, ch < 256 ∧ td k = nI ch) : MW l yX3_readOrder wsX3_readOrder 5 115 0 0 D [.ref (a 20)] (wP D a td vl L pt fl kd) (fun v w2 => v = some (.int (b2i (yOrder td L pt fl vl).1)) ∧ w2 = (wP D a td (yOrder td L pt fl vl).2.2.2 L (yOrder td L pt fl vl).2.1 (yOrder td L pt fl vl).2.2.1 (if L ≤ pt then kd else td pt))) := by
  refine MW.of (cc := cX3_readOrder) (maxL := 3) (ret := (some .boolean)) (lv := [(0, .ref (a 20))]) (by decide +kernel) rfl (Nat.le_of_ble_eq_true rfl) rfl ?_
  intro p e s m below meth c A hAe hAg X hr hmn
  have hinX30 : ∀ w ∈ wsX30, w ∈ wsX3_readOrder := fun w h => List.mem_cons_of_mem _ (List.mem_append_right _ h)
  have hl40 := List.mem_of_getElem? (l := wsX3_readOrder) (i := 1) rfl
  have hl23 := List.mem_of_getElem? (l := wsX3_readOrder) (i := 2) rfl
  have hl9 := List.mem_of_getElem? (l := wsX3_readOrder) (i := 3) rfl
  have hl46 := List.mem_of_getElem? (l := wsX3_readOrder) (i := 4) rfl
  have hl59 := List.mem_of_getElem? (l := wsX3_readOrder) (i := 5) rfl
  refine g_aload_n X dX3_readOrder_0 rfl 0 rfl rfl ?_
  refine gP_get_at X dX3_readOrder_1 hinX30 hl40 rfl ?_
  refine g_aload_n X dX3_readOrder_4 rfl 0 rfl rfl ?_
  refine gP_get_length X dX3_readOrder_5 hinX30 hl23 rfl ?_
  refine g_icmp_lt X dX3_readOrder_8 13 (by decide) rfl (fun h8 => ?_) (fun h8 => ?_)
  · have i8 := nj_lt (a := pt) (b := L) (by omega) (by omega) h8
    have hkn := nar_cv (hch pt (by omega))
    have hi7 := shI_lt (td pt)
    have h7 := shN_lt _ hi7
    refine g_aload_n X dX3_readOrder_13 rfl 0 rfl rfl ?_
    refine g_aload_n X dX3_readOrder_14 rfl 0 rfl rfl ?_
    refine gP_get_text X dX3_readOrder_15 hinX30 hl9 rfl ?_
    refine g_aload_n X dX3_readOrder_18 rfl 0 rfl rfl ?_
    refine gP_get_at X dX3_readOrder_19 hinX30 hl40 rfl ?_
    refine gP_ld_text X dX3_readOrder_22 (by first | rfl | assumption) (by omega) rfl ?_
    refine gP_put_kind X rfl dX3_readOrder_23 hinX30 hl46 hkn.1 hkn.2 rfl ?_
    refine g_aload_n X dX3_readOrder_26 rfl 0 rfl rfl ?_
    refine gP_get_kind X dX3_readOrder_27 hinX30 hl46 rfl ?_
    refine g_callSR (n := 1) (As := [_]) (rest := []) X (c_X3_shapeOf l D (td pt)) gX3_readOrder_X3_shapeOf rfl (by decide +kernel) ⟨Nat.le_of_ble_eq_true rfl, Nat.le_of_ble_eq_true rfl⟩ [] rfl rfl rfl rfl (Nat.le_of_ble_eq_true rfl) dX3_readOrder_30 ⟨Nat.le_of_ble_eq_true rfl, Nat.le_of_ble_eq_true rfl⟩ rfl (fun v hv => ?_)
    obtain rfl := hv
    refine g_st (st' := [_]) rfl ?_
    refine g_astore_n X [(1, _), (0, _)] dX3_readOrder_33 rfl (by decide) rfl rfl ?_
    refine g_aload_n X dX3_readOrder_34 rfl 0 rfl rfl ?_
    refine g_callSt (n := 0) (As := []) (rest := []) X (c_J0_isEmpty_aae02 l D (shI (td pt)) hi7) gX3_readOrder_J0_isEmpty_aae02 rfl (by decide +kernel) ⟨Nat.le_of_ble_eq_true rfl, Nat.le_of_ble_eq_true rfl⟩ (shI (td pt)) hi7 rfl rfl [] rfl rfl rfl rfl (Nat.le_of_ble_eq_true rfl) dX3_readOrder_35 ⟨Nat.le_of_ble_eq_true rfl, Nat.le_of_ble_eq_true rfl⟩ rfl (fun v hv => ?_)
    obtain rfl := hv
    refine g_st (st' := [_]) rfl ?_
    refine g_if_eq X dX3_readOrder_38 43 (by decide) rfl (fun h38 => ?_) (fun h38 => ?_)
    · replace h38 := b2i_0 h38
      have hne : ¬ shN (shI (td pt)) = 0 := of_decide_eq_false h38
      have hO : (yOrder td L pt fl vl) = yLoop td L (shI (td pt)) (shN (shI (td pt))) 0 (pt + 1, 0, vl) := (if_neg (by omega)).trans (if_neg hne)
      refine g_aload_n X dX3_readOrder_43 rfl 1 rfl rfl ?_
      refine g_callVWsq (n := 0) (As := []) (rest := []) X hAg rfl (c_X3_skipSign l D _ _ _ _ _ _ _ hL) gX3_readOrder_X3_skipSign rfl (by decide +kernel) ⟨Nat.le_of_ble_eq_true rfl, Nat.le_of_ble_eq_true rfl⟩ 0 rfl rfl  rfl rfl (Nat.le_of_ble_eq_true rfl) dX3_readOrder_44 ⟨Nat.le_of_ble_eq_true rfl, Nat.le_of_ble_eq_true rfl⟩ rfl (fun v w hv => ?_)
      obtain ⟨rfl, rfl⟩ := hv
      refine ⟨rfl, ?_⟩
      refine g_st (st' := []) rfl ?_
      refine g_aload_n X dX3_readOrder_47 rfl 1 rfl rfl ?_
      refine g_iconst (v := (0 : Int32)) X dX3_readOrder_48 (by decide) rfl ?_
      refine gP_put_filled (v := 0) X rfl dX3_readOrder_49 hinX30 hl59 rfl ?_
      refine g_iconst (v := (0 : Int32)) X dX3_readOrder_52 (by decide) rfl ?_
      refine g_istore_n X [(2, _), (1, _), (0, _)] dX3_readOrder_53 rfl (by decide) rfl rfl ?_
      have L54 : ∀ (k i : Nat) (y : Y3) (hk : i + k = shN (shI (td pt))) (hy1 : y.1 ≤ L) (hy4 : y.2.1 ≤ 4) (hR : yLoop td L (shI (td pt)) k i y = yLoop td L (shI (td pt)) (shN (shI (td pt))) 0 (pt + 1, 0, vl)), GG p l e (wRoom 5 115 0 0) s m ([.ref (a 20)] : List Value).toArray below meth c D A 3 false 0 0 (MQ below (wrQ D (wP D a td vl L pt fl kd) s.heap.size (fun v w2 => v = some (.int (b2i (yOrder td L pt fl vl).1)) ∧ w2 = (wP D a td (yOrder td L pt fl vl).2.2.2 L (yOrder td L pt fl vl).2.1 (yOrder td L pt fl vl).2.2.1 (if L ≤ pt then kd else td pt)))) ([.ref (a 20)] : List Value).toArray s 0 0 (va_A (wP D a td vl L pt fl kd) s.heap.size)) (wP D a td y.2.2 L y.1 y.2.1 (td pt)) 54 [(2, .int (nI i)), (1, .ref (D.2.2.2.2.2.1 (shI (td pt)))), (0, .ref (a 20))] [] := by
        intro k
        induction k using Nat.strongRecOn with
        | _ k ih =>
        intro i y hk hy1 hy4 hR
        have hk2 : i + k = lenS.getD (shI (td pt)) 0 := hk
        refine g_iload_n X dX3_readOrder_54 rfl 0 rfl rfl ?_
        refine g_aload_n X dX3_readOrder_55 rfl 1 rfl rfl ?_
        refine g_callSt (n := 0) (As := []) (rest := [_]) X (c_J0_length_8abf5 l D (shI (td pt)) hi7) gX3_readOrder_J0_length_8abf5 rfl (by decide +kernel) ⟨Nat.le_of_ble_eq_true rfl, Nat.le_of_ble_eq_true rfl⟩ (shI (td pt)) hi7 rfl rfl [] rfl rfl rfl rfl (Nat.le_of_ble_eq_true rfl) dX3_readOrder_56 ⟨Nat.le_of_ble_eq_true rfl, Nat.le_of_ble_eq_true rfl⟩ rfl (fun v hv => ?_)
        obtain rfl := hv
        refine g_st (st' := [_, _]) rfl ?_
        refine g_icmp_ge X dX3_readOrder_59 93 (by decide) rfl (fun h59 => ?_) (fun h59 => ?_)
        · have i59 := nj_le (a := (lenS.getD (shI (td pt)) 0)) (b := i) (by omega) (by omega) h59
          refine g_iconst (v := (1 : Int32)) X dX3_readOrder_93 (by decide) rfl ?_
          refine g_retW X hr (by first | rfl | exact b2i_nar _) dX3_readOrder_94 hAe ?_
          obtain rfl : k = 0 := by omega
          have hT : (yOrder td L pt fl vl) = (true, y) := by rw [hO, ← hR, yLoop]
          rw [hT, if_neg (by omega)]
          exact ⟨rfl, rfl⟩
        · have i59 := nj_nle (a := (lenS.getD (shI (td pt)) 0)) (b := i) (by omega) (by omega) h59
          refine g_aload_n X dX3_readOrder_62 rfl 2 rfl rfl ?_
          refine gP_get_at X dX3_readOrder_63 hinX30 hl40 rfl ?_
          refine g_aload_n X dX3_readOrder_66 rfl 2 rfl rfl ?_
          refine gP_get_length X dX3_readOrder_67 hinX30 hl23 rfl ?_
          refine g_icmp_ge X dX3_readOrder_70 85 (by decide) rfl (fun h70 => ?_) (fun h70 => ?_)
          · have i70 := nj_le (a := L) (b := y.1) (by omega) (by omega) h70
            refine g_iconst (v := (0 : Int32)) X dX3_readOrder_85 (by decide) rfl ?_
            refine g_retW X hr (by first | rfl | exact b2i_nar _) dX3_readOrder_86 hAe ?_
            obtain ⟨k1, rfl⟩ : ∃ k1, k = k1 + 1 := ⟨k - 1, by omega⟩
            rw [if_neg (by omega)]
            first
            | (have hT : (yOrder td L pt fl vl) = (false, (yPart td L (shC (shI (td pt)) i) y).2) := by rw [hO, ← hR, yLoop, if_neg (by omega), if_neg (show ¬ (yPart td L (shC (shI (td pt)) i) y).1 = true from fun z => Bool.false_ne_true (Eq.trans (Eq.symm h82) z))]
               rw [hT]
               exact ⟨rfl, rfl⟩)
            | (have hT : (yOrder td L pt fl vl) = (false, y) := by rw [hO, ← hR, yLoop, if_pos i70]
               rw [hT]
               exact ⟨rfl, rfl⟩)
          · have i70 := nj_nle (a := L) (b := y.1) (by omega) (by omega) h70
            refine g_aload_n X dX3_readOrder_73 rfl 2 rfl rfl ?_
            refine g_aload_n X dX3_readOrder_74 rfl 1 rfl rfl ?_
            refine g_iload_n X dX3_readOrder_75 rfl 0 rfl rfl ?_
            refine g_callSt (n := 1) (As := [_]) (rest := [_]) X (c_J0_charAt_5068e l D (shI (td pt)) hi7 i i59) gX3_readOrder_J0_charAt_5068e rfl (by decide +kernel) ⟨Nat.le_of_ble_eq_true rfl, Nat.le_of_ble_eq_true rfl⟩ (shI (td pt)) hi7 rfl rfl [] rfl rfl rfl rfl (Nat.le_of_ble_eq_true rfl) dX3_readOrder_76 ⟨Nat.le_of_ble_eq_true rfl, Nat.le_of_ble_eq_true rfl⟩ rfl (fun v hv => ?_)
            obtain rfl := hv
            refine g_st (st' := [_, _]) rfl ?_
            refine g_callVWsq (n := 1) (As := [_]) (rest := []) X hAg rfl (c_X3_readPart l D _ _ _ _ _ _ _ hL i70 _ hy4) gX3_readOrder_X3_readPart rfl (by decide +kernel) ⟨Nat.le_of_ble_eq_true rfl, Nat.le_of_ble_eq_true rfl⟩ 0 rfl rfl  rfl rfl (Nat.le_of_ble_eq_true rfl) dX3_readOrder_79 ⟨Nat.le_of_ble_eq_true rfl, Nat.le_of_ble_eq_true rfl⟩ rfl (fun v w hv => ?_)
            obtain ⟨rfl, rfl⟩ := hv
            refine ⟨rfl, ?_⟩
            refine g_st (st' := [_]) rfl ?_
            refine g_if_ne X dX3_readOrder_82 87 (by decide) rfl (fun h82 => ?_) (fun h82 => ?_)
            · replace h82 := b2i_n0 h82
              refine g_iinc (v := nI (i + 1)) X [(2, _), (1, _), (0, _)] dX3_readOrder_87 0 rfl (nI_add (i) 1) (by decide) rfl rfl ?_
              refine g_goto X dX3_readOrder_90 54 (by decide) ?_
              obtain ⟨k1, rfl⟩ : ∃ k1, k = k1 + 1 := ⟨k - 1, by omega⟩
              have hb := yPart_b (td := td) (ch := shC (shI (td pt)) i) i70 hy4
              exact ih k1 (by omega) (i + 1) (yPart td L (shC (shI (td pt)) i) y).2 (by omega) hb.1 hb.2 (by rw [← hR, yLoop, if_neg (by omega), if_pos (show (yPart td L (shC (shI (td pt)) i) y).1 = true from h82)])
            · replace h82 := b2i_0 h82
              refine g_iconst (v := (0 : Int32)) X dX3_readOrder_85 (by decide) rfl ?_
              refine g_retW X hr (by first | rfl | exact b2i_nar _) dX3_readOrder_86 hAe ?_
              obtain ⟨k1, rfl⟩ : ∃ k1, k = k1 + 1 := ⟨k - 1, by omega⟩
              rw [if_neg (by omega)]
              first
              | (have hT : (yOrder td L pt fl vl) = (false, (yPart td L (shC (shI (td pt)) i) y).2) := by rw [hO, ← hR, yLoop, if_neg (by omega), if_neg (show ¬ (yPart td L (shC (shI (td pt)) i) y).1 = true from fun z => Bool.false_ne_true (Eq.trans (Eq.symm h82) z))]
                 rw [hT]
                 exact ⟨rfl, rfl⟩)
              | (have hT : (yOrder td L pt fl vl) = (false, y) := by rw [hO, ← hR, yLoop, if_pos i70]
                 rw [hT]
                 exact ⟨rfl, rfl⟩)
      exact L54 (shN (shI (td pt))) 0 (pt + 1, 0, vl) (by omega) (by show pt + 1 ≤ L; omega) (by show (0 : Nat) ≤ 4; omega) rfl
    · replace h38 := b2i_n0 h38
      refine g_iconst (v := (0 : Int32)) X dX3_readOrder_41 (by decide) rfl ?_
      refine g_retW X hr (by first | rfl | exact b2i_nar _) dX3_readOrder_42 hAe ?_
      have hT : (yOrder td L pt fl vl) = (false, (pt, fl, vl)) := (if_neg (by omega)).trans (if_pos (of_decide_eq_true h38))
      rw [hT, if_neg (by omega)]
      exact ⟨rfl, rfl⟩
  · have i8 := nj_nlt (a := pt) (b := L) (by omega) (by omega) h8
    refine g_iconst (v := (0 : Int32)) X dX3_readOrder_11 (by decide) rfl ?_
    refine g_retW X hr (by first | rfl | exact b2i_nar _) dX3_readOrder_12 hAe ?_
    have hT : (yOrder td L pt fl vl) = (false, (pt, fl, vl)) := if_pos i8
    rw [hT, if_pos i8]
    exact ⟨rfl, rfl⟩

set_option maxHeartbeats 4000000 in
set_option maxRecDepth 100000 in
theorem c_X3_findFault (l : Launch) (D : DT) (a : Nat → Nat) (td vl : Nat → Int32) (L pt fl : Nat) (kd : Int32) (hL : L ≤ 80) (hch : ∀ k, k < L → ∃ ch : Nat, ch < 256 ∧ td k = nI ch) : MW l yX3_findFault wsX3_findFault 6 137 0 0 D [.ref (a 20)] (wP D a td vl L pt fl kd) (fun v w2 => v = some (.int (yF td L 80 0 fl vl)) ∧ ∃ (p9 f9 : Nat) (v9 : Nat → Int32) (k9 : Int32), p9 ≤ L ∧ w2 = (wP D a td v9 L p9 f9 k9)) := by
  refine MW.of (cc := cX3_findFault) (maxL := 2) (ret := (some .int)) (lv := [(0, .ref (a 20))]) (by decide +kernel) rfl (Nat.le_of_ble_eq_true rfl) rfl ?_
  intro p e s m below meth c A hAe hAg X hr hmn
  have hinX30 : ∀ w ∈ wsX30, w ∈ wsX3_findFault := fun w h => List.mem_cons_of_mem _ (List.mem_append_right _ h)
  have hl40 := List.mem_of_getElem? (l := wsX3_findFault) (i := 1) rfl
  have hl23 := List.mem_of_getElem? (l := wsX3_findFault) (i := 2) rfl
  have hl9 := List.mem_of_getElem? (l := wsX3_findFault) (i := 3) rfl
  refine g_aload_n X dX3_findFault_0 rfl 0 rfl rfl ?_
  refine g_callVWsq (n := 0) (As := []) (rest := []) X hAg rfl (c_X3_startReading l D _ _ _ _ _ _ _ hL) gX3_findFault_X3_startReading rfl (by decide +kernel) ⟨Nat.le_of_ble_eq_true rfl, Nat.le_of_ble_eq_true rfl⟩ 0 rfl rfl  rfl rfl (Nat.le_of_ble_eq_true rfl) dX3_findFault_1 ⟨Nat.le_of_ble_eq_true rfl, Nat.le_of_ble_eq_true rfl⟩ rfl (fun v w hv => ?_)
  obtain ⟨rfl, rfl⟩ := hv
  refine ⟨rfl, ?_⟩
  refine g_st (st' := []) rfl ?_
  refine g_iconst (v := (0 : Int32)) X dX3_findFault_4 (by decide) rfl ?_
  refine g_istore_n X [(1, _), (0, _)] dX3_findFault_5 rfl (by decide) rfl rfl ?_
  have L6 : ∀ (k i p1 f1 : Nat) (v1 : Nat → Int32) (k1 : Int32) (hk : i + k = 80) (hp1 : p1 ≤ L) (hR : yF td L k p1 f1 v1 = yF td L 80 0 fl vl), GG p l e (wRoom 6 137 0 0) s m ([.ref (a 20)] : List Value).toArray below meth c D A 2 false 0 0 (MQ below (wrQ D (wP D a td vl L pt fl kd) s.heap.size (fun v w2 => v = some (.int (yF td L 80 0 fl vl)) ∧ ∃ (p9 f9 : Nat) (v9 : Nat → Int32) (k9 : Int32), p9 ≤ L ∧ w2 = (wP D a td v9 L p9 f9 k9))) ([.ref (a 20)] : List Value).toArray s 0 0 (va_A (wP D a td vl L pt fl kd) s.heap.size)) (wP D a td v1 L p1 f1 k1) 6 [(1, .int (nI i)), (0, .ref (a 20))] [] := by
    intro k
    induction k using Nat.strongRecOn with
    | _ k ih =>
    intro i p1 f1 v1 k1 hk hp1 hR
    have hb := yOrder_b (td := td) (fl := f1) (vl := v1) hp1
    refine g_iload_n X dX3_findFault_6 rfl 0 rfl rfl ?_
    refine g_bipush (v := (80 : Int32)) X dX3_findFault_7 (by decide) rfl ?_
    refine g_icmp_ge X dX3_findFault_9 62 (by decide) rfl (fun h9 => ?_) (fun h9 => ?_)
    · have i9 := nj_le (a := 80) (b := i) (by omega) (by omega) h9
      refine g_aload_n X dX3_findFault_62 rfl 1 rfl rfl ?_
      refine gP_get_at X dX3_findFault_63 hinX30 hl40 rfl ?_
      refine g_retW X hr (by first | rfl | exact b2i_nar _) dX3_findFault_66 hAe ?_
      first
      | (obtain rfl : k = 0 := by omega
         exact ⟨by rw [← hR, yF], _, _, _, _, hp1, rfl⟩)
      | (obtain ⟨k2, rfl⟩ : ∃ k2, k = k2 + 1 := ⟨k - 1, by omega⟩
         exact ⟨by rw [← hR, yF, if_neg (by rw [h16]; exact Bool.false_ne_true)], _, _, _, _, hb, rfl⟩)
    · have i9 := nj_nle (a := 80) (b := i) (by omega) (by omega) h9
      refine g_aload_n X dX3_findFault_12 rfl 1 rfl rfl ?_
      refine g_callVWsq (n := 0) (As := []) (rest := []) X hAg rfl (c_X3_readOrder l D _ _ _ _ _ _ _ hL hp1 hch) gX3_findFault_X3_readOrder rfl (by decide +kernel) ⟨Nat.le_of_ble_eq_true rfl, Nat.le_of_ble_eq_true rfl⟩ 0 rfl rfl  rfl rfl (Nat.le_of_ble_eq_true rfl) dX3_findFault_13 ⟨Nat.le_of_ble_eq_true rfl, Nat.le_of_ble_eq_true rfl⟩ rfl (fun v w hv => ?_)
      obtain ⟨rfl, rfl⟩ := hv
      refine ⟨rfl, ?_⟩
      refine g_st (st' := [_]) rfl ?_
      refine g_if_eq X dX3_findFault_16 62 (by decide) rfl (fun h16 => ?_) (fun h16 => ?_)
      · replace h16 := b2i_0 h16
        refine g_aload_n X dX3_findFault_62 rfl 1 rfl rfl ?_
        refine gP_get_at X dX3_findFault_63 hinX30 hl40 rfl ?_
        refine g_retW X hr (by first | rfl | exact b2i_nar _) dX3_findFault_66 hAe ?_
        first
        | (obtain rfl : k = 0 := by omega
           exact ⟨by rw [← hR, yF], _, _, _, _, hp1, rfl⟩)
        | (obtain ⟨k2, rfl⟩ : ∃ k2, k = k2 + 1 := ⟨k - 1, by omega⟩
           exact ⟨by rw [← hR, yF, if_neg (by rw [h16]; exact Bool.false_ne_true)], _, _, _, _, hb, rfl⟩)
      · replace h16 := b2i_n0 h16
        refine g_aload_n X dX3_findFault_19 rfl 1 rfl rfl ?_
        refine gP_get_at X dX3_findFault_20 hinX30 hl40 rfl ?_
        refine g_aload_n X dX3_findFault_23 rfl 1 rfl rfl ?_
        refine gP_get_length X dX3_findFault_24 hinX30 hl23 rfl ?_
        refine g_icmp_lt X dX3_findFault_27 33 (by decide) rfl (fun h27 => ?_) (fun h27 => ?_)
        · have i27 := nj_lt (a := (yOrder td L p1 f1 v1).2.1) (b := L) (by omega) (by omega) h27
          refine g_aload_n X dX3_findFault_33 rfl 1 rfl rfl ?_
          refine gP_get_text X dX3_findFault_34 hinX30 hl9 rfl ?_
          refine g_aload_n X dX3_findFault_37 rfl 1 rfl rfl ?_
          refine gP_get_at X dX3_findFault_38 hinX30 hl40 rfl ?_
          refine gP_ld_text X dX3_findFault_41 (by first | rfl | assumption) (by omega) rfl ?_
          refine g_bipush (v := (59 : Int32)) X dX3_findFault_42 (by decide) rfl ?_
          refine g_icmp_eq X dX3_findFault_44 52 (by decide) rfl (fun h44 => ?_) (fun h44 => ?_)
          · refine g_aload_n X dX3_findFault_52 rfl 1 rfl rfl ?_
            refine g_callVWsq (n := 0) (As := []) (rest := []) X hAg rfl (c_X3_skipSign l D _ _ _ _ _ _ _ hL) gX3_findFault_X3_skipSign rfl (by decide +kernel) ⟨Nat.le_of_ble_eq_true rfl, Nat.le_of_ble_eq_true rfl⟩ 0 rfl rfl  rfl rfl (Nat.le_of_ble_eq_true rfl) dX3_findFault_53 ⟨Nat.le_of_ble_eq_true rfl, Nat.le_of_ble_eq_true rfl⟩ rfl (fun v w hv => ?_)
            obtain ⟨rfl, rfl⟩ := hv
            refine ⟨rfl, ?_⟩
            refine g_st (st' := []) rfl ?_
            refine g_iinc (v := nI (i + 1)) X [(1, _), (0, _)] dX3_findFault_56 0 rfl (nI_add (i) 1) (by decide) rfl rfl ?_
            refine g_goto X dX3_findFault_59 6 (by decide) ?_
            obtain ⟨k2, rfl⟩ : ∃ k2, k = k2 + 1 := ⟨k - 1, by omega⟩
            exact ih k2 (by omega) (i + 1) _ _ _ _ (by omega) (by omega) (by rw [← hR, yF, if_pos h16, if_neg (by omega), if_pos h44])
          · refine g_aload_n X dX3_findFault_47 rfl 1 rfl rfl ?_
            refine gP_get_at X dX3_findFault_48 hinX30 hl40 rfl ?_
            refine g_retW X hr (by first | rfl | exact b2i_nar _) dX3_findFault_51 hAe ?_
            obtain ⟨k2, rfl⟩ : ∃ k2, k = k2 + 1 := ⟨k - 1, by omega⟩
            exact ⟨by rw [← hR, yF, if_pos h16, if_neg (by omega), if_neg h44], _, _, _, _, hb, rfl⟩
        · have i27 := nj_nlt (a := (yOrder td L p1 f1 v1).2.1) (b := L) (by omega) (by omega) h27
          refine g_bipush (v := ((-6) : Int32)) X dX3_findFault_30 (by decide) rfl ?_
          refine g_retW X hr (by first | rfl | exact b2i_nar _) dX3_findFault_32 hAe ?_
          obtain ⟨k2, rfl⟩ : ∃ k2, k = k2 + 1 := ⟨k - 1, by omega⟩
          exact ⟨by rw [← hR, yF, if_pos h16, if_pos i27], _, _, _, _, hb, rfl⟩
  exact L6 80 0 0 fl vl kd (by omega) (by omega) rfl
