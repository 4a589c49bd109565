theorem mk_m1 {k : Nat} (h : k ≤ 1000) : (nI k - 1 : Int32).toInt = (k : Int) - 1 := by
  have := pk_sub_toInt (a := k) (b := 1) (by omega) (by omega)
  exact this
theorem ix_of7 (q w : Nat) : (127 : Int32) + 7 * nI q + nI w = nI (127 + w + 7 * q) := by
  rw [show (127 : Int32) = nI 127 from rfl, show (7 : Int32) = nI 7 from rfl, pk_mul, nI_add, nI_add]
  congr 1; omega
theorem ix_door (g d : Nat) : (16 : Int32) + 10 * nI g + nI d = nI (16 + (10 * g + d)) := by
  rw [show (16 : Int32) = nI 16 from rfl, show (10 : Int32) = nI 10 from rfl, pk_mul, nI_add, nI_add]
  congr 1; omega
theorem ix_note (q w : Nat) : (91 : Int32) + 4 * nI q + nI w = nI (91 + w + 4 * q) := by
  rw [show (91 : Int32) = nI 91 from rfl, show (4 : Int32) = nI 4 from rfl, pk_mul, nI_add, nI_add]
  congr 1; omega
set_option maxHeartbeats 4000000 in
set_option maxRecDepth 100000 in
theorem c_X7_in (l : Launch) (D : DT) (v lo hi : Int32) : MR l yX7_in wsX7_in 0 0 D [.int v, .int lo, .int hi] [] (fun r => r = some (.int (b2i (decide (lo.toInt ≤ v.toInt ∧ v.toInt ≤ hi.toInt))))) := by
  refine MR.of (cc := cX7_in) (maxL := 3) (ret := (some .boolean)) (lv := [(0, .int v), (1, .int lo), (2, .int hi)]) (by decide +kernel) rfl (Nat.le_of_ble_eq_true rfl) rfl ?_
  intro p e s m below meth c A X hr hmn
  refine g_iload_n X dX7_in_0 rfl 0 rfl rfl ?_
  refine g_iload_n X dX7_in_1 rfl 1 rfl rfl ?_
  refine g_icmp_lt X dX7_in_2 14 (by decide) rfl (fun h2 => ?_) (fun h2 => ?_)
  · have i2 : _ < _ := ic_lt h2
    refine g_iconst (v := (0 : Int32)) X dX7_in_14 (by decide) rfl ?_
    refine g_retR X hr (by first | rfl | exact b2i_nar _) dX7_in_15 ?_
    first | exact ret_t ⟨by omega, by omega⟩ | exact ret_f (by omega)
  · have i2 : _ ≤ _ := ic_nlt h2
    refine g_iload_n X dX7_in_5 rfl 0 rfl rfl ?_
    refine g_iload_n X dX7_in_6 rfl 2 rfl rfl ?_
    refine g_icmp_gt X dX7_in_7 14 (by decide) rfl (fun h7 => ?_) (fun h7 => ?_)
    · have i7 : _ < _ := ic_lt h7
      refine g_iconst (v := (0 : Int32)) X dX7_in_14 (by decide) rfl ?_
      refine g_retR X hr (by first | rfl | exact b2i_nar _) dX7_in_15 ?_
      first | exact ret_t ⟨by omega, by omega⟩ | exact ret_f (by omega)
    · have i7 : _ ≤ _ := ic_nlt h7
      refine g_iconst (v := (1 : Int32)) X dX7_in_10 (by decide) rfl ?_
      refine g_goto X dX7_in_11 15 (by decide) ?_
      refine g_retR X hr (by first | rfl | exact b2i_nar _) dX7_in_15 ?_
      first | exact ret_t ⟨by omega, by omega⟩ | exact ret_f (by omega)

set_option maxHeartbeats 4000000 in
set_option maxRecDepth 100000 in
theorem c_X7_isGuest (l : Launch) (D : DT) (x : Int32) : MR l yX7_isGuest wsX7_isGuest 1 22 D [.int x] [] (fun v => v = some (.int (b2i (rng 6 x)))) := by
  refine MR.of (cc := cX7_isGuest) (maxL := 1) (ret := (some .boolean)) (lv := [(0, .int x)]) (by decide +kernel) rfl (Nat.le_of_ble_eq_true rfl) rfl ?_
  intro p e s m below meth c A X hr hmn
  refine g_iload_n X dX7_isGuest_0 rfl 0 rfl rfl ?_
  refine g_iconst (v := (0 : Int32)) X dX7_isGuest_1 (by decide) rfl ?_
  refine g_iconst (v := (5 : Int32)) X dX7_isGuest_2 (by decide) rfl ?_
  refine g_callSR (n := 3) (As := [_, _, _]) (rest := []) X (c_X7_in l D _ _ _) gX7_isGuest_X7_in rfl (by decide +kernel) ⟨Nat.le_of_ble_eq_true rfl, Nat.le_of_ble_eq_true rfl⟩ [] rfl rfl rfl rfl (Nat.le_of_ble_eq_true rfl) dX7_isGuest_3 ⟨Nat.le_of_ble_eq_true rfl, Nat.le_of_ble_eq_true rfl⟩ rfl (fun v hv => ?_)
  obtain rfl := hv
  refine g_st (st' := [_]) rfl ?_
  refine g_retR X hr (by first | rfl | exact b2i_nar _) dX7_isGuest_6 ?_
  refine ret_b (?_ : decide ((0 : Int) ≤ x.toInt ∧ x.toInt ≤ (5 : Int)) = rng 6 x)
  unfold rng
  exact decide_eq_decide.mpr ⟨fun h => by omega, fun h => by omega⟩

set_option maxHeartbeats 4000000 in
set_option maxRecDepth 100000 in
theorem c_X7_isPage (l : Launch) (D : DT) (x : Int32) : MR l yX7_isPage wsX7_isPage 1 22 D [.int x] [] (fun v => v = some (.int (b2i (rng 12 x)))) := by
  refine MR.of (cc := cX7_isPage) (maxL := 1) (ret := (some .boolean)) (lv := [(0, .int x)]) (by decide +kernel) rfl (Nat.le_of_ble_eq_true rfl) rfl ?_
  intro p e s m below meth c A X hr hmn
  refine g_iload_n X dX7_isPage_0 rfl 0 rfl rfl ?_
  refine g_iconst (v := (0 : Int32)) X dX7_isPage_1 (by decide) rfl ?_
  refine g_bipush (v := (11 : Int32)) X dX7_isPage_2 (by decide) rfl ?_
  refine g_callSR (n := 3) (As := [_, _, _]) (rest := []) X (c_X7_in l D _ _ _) gX7_isPage_X7_in rfl (by decide +kernel) ⟨Nat.le_of_ble_eq_true rfl, Nat.le_of_ble_eq_true rfl⟩ [] rfl rfl rfl rfl (Nat.le_of_ble_eq_true rfl) dX7_isPage_4 ⟨Nat.le_of_ble_eq_true rfl, Nat.le_of_ble_eq_true rfl⟩ rfl (fun v hv => ?_)
  obtain rfl := hv
  refine g_st (st' := [_]) rfl ?_
  refine g_retR X hr (by first | rfl | exact b2i_nar _) dX7_isPage_7 ?_
  refine ret_b (?_ : decide ((0 : Int) ≤ x.toInt ∧ x.toInt ≤ (11 : Int)) = rng 12 x)
  unfold rng
  exact decide_eq_decide.mpr ⟨fun h => by omega, fun h => by omega⟩

set_option maxHeartbeats 4000000 in
set_option maxRecDepth 100000 in
theorem c_X7_areRights (l : Launch) (D : DT) (x : Int32) : MR l yX7_areRights wsX7_areRights 1 22 D [.int x] [] (fun v => v = some (.int (b2i (decide (1 ≤ x.toInt ∧ x.toInt ≤ 7))))) := by
  refine MR.of (cc := cX7_areRights) (maxL := 1) (ret := (some .boolean)) (lv := [(0, .int x)]) (by decide +kernel) rfl (Nat.le_of_ble_eq_true rfl) rfl ?_
  intro p e s m below meth c A X hr hmn
  refine g_iload_n X dX7_areRights_0 rfl 0 rfl rfl ?_
  refine g_iconst (v := (1 : Int32)) X dX7_areRights_1 (by decide) rfl ?_
  refine g_bipush (v := (7 : Int32)) X dX7_areRights_2 (by decide) rfl ?_
  refine g_callSR (n := 3) (As := [_, _, _]) (rest := []) X (c_X7_in l D _ _ _) gX7_areRights_X7_in rfl (by decide +kernel) ⟨Nat.le_of_ble_eq_true rfl, Nat.le_of_ble_eq_true rfl⟩ [] rfl rfl rfl rfl (Nat.le_of_ble_eq_true rfl) dX7_areRights_4 ⟨Nat.le_of_ble_eq_true rfl, Nat.le_of_ble_eq_true rfl⟩ rfl (fun v hv => ?_)
  obtain rfl := hv
  refine g_st (st' := [_]) rfl ?_
  refine g_retR X hr (by first | rfl | exact b2i_nar _) dX7_areRights_7 ?_
  rfl

set_option maxHeartbeats 4000000 in
set_option maxRecDepth 100000 in
theorem c_X7_isDoor (l : Launch) (D : DT) (g d : Int32) : MR l yX7_isDoor wsX7_isDoor 2 42 D [.int g, .int d] [] (fun v => v = some (.int (b2i (rng 6 g && rng 10 d)))) := by
  refine MR.of (cc := cX7_isDoor) (maxL := 2) (ret := (some .boolean)) (lv := [(0, .int g), (1, .int d)]) (by decide +kernel) rfl (Nat.le_of_ble_eq_true rfl) rfl ?_
  intro p e s m below meth c A X hr hmn
  refine g_iload_n X dX7_isDoor_0 rfl 0 rfl rfl ?_
  refine g_callSR (n := 1) (As := [_]) (rest := []) X (c_X7_isGuest l D _) gX7_isDoor_X7_isGuest rfl (by decide +kernel) ⟨Nat.le_of_ble_eq_true rfl, Nat.le_of_ble_eq_true rfl⟩ [] rfl rfl rfl rfl (Nat.le_of_ble_eq_true rfl) dX7_isDoor_1 ⟨Nat.le_of_ble_eq_true rfl, Nat.le_of_ble_eq_true rfl⟩ rfl (fun v hv => ?_)
  obtain rfl := hv
  refine g_st (st' := [_]) rfl ?_
  refine g_if_eq X dX7_isDoor_4 21 (by decide) rfl (fun h4 => ?_) (fun h4 => ?_)
  · replace h4 := b2i_0 h4
    refine g_iconst (v := (0 : Int32)) X dX7_isDoor_21 (by decide) rfl ?_
    refine g_retR X hr (by first | rfl | exact b2i_nar _) dX7_isDoor_22 ?_
    first | exact ret_1 (by simp [*]) | exact ret_0 (by simp [*])
  · replace h4 := b2i_n0 h4
    refine g_iload_n X dX7_isDoor_7 rfl 1 rfl rfl ?_
    refine g_iconst (v := (0 : Int32)) X dX7_isDoor_8 (by decide) rfl ?_
    refine g_bipush (v := (9 : Int32)) X dX7_isDoor_9 (by decide) rfl ?_
    refine g_callSR (n := 3) (As := [_, _, _]) (rest := []) X (c_X7_in l D _ _ _) gX7_isDoor_X7_in rfl (by decide +kernel) ⟨Nat.le_of_ble_eq_true rfl, Nat.le_of_ble_eq_true rfl⟩ [] rfl rfl rfl rfl (Nat.le_of_ble_eq_true rfl) dX7_isDoor_11 ⟨Nat.le_of_ble_eq_true rfl, Nat.le_of_ble_eq_true rfl⟩ rfl (fun v hv => ?_)
    replace hv : v = some (.int (b2i (decide ((0 : Int) ≤ d.toInt ∧ d.toInt ≤ (9 : Int))))) := hv
    rw [show decide ((0 : Int) ≤ d.toInt ∧ d.toInt ≤ (9 : Int)) = rng 10 d from decide_eq_decide.mpr ⟨fun h => by omega, fun h => by omega⟩] at hv
    obtain rfl := hv
    refine g_st (st' := [_]) rfl ?_
    refine g_if_eq X dX7_isDoor_14 21 (by decide) rfl (fun h14 => ?_) (fun h14 => ?_)
    · replace h14 := b2i_0 h14
      refine g_iconst (v := (0 : Int32)) X dX7_isDoor_21 (by decide) rfl ?_
      refine g_retR X hr (by first | rfl | exact b2i_nar _) dX7_isDoor_22 ?_
      first | exact ret_1 (by simp [*]) | exact ret_0 (by simp [*])
    · replace h14 := b2i_n0 h14
      refine g_iconst (v := (1 : Int32)) X dX7_isDoor_17 (by decide) rfl ?_
      refine g_goto X dX7_isDoor_18 22 (by decide) ?_
      refine g_retR X hr (by first | rfl | exact b2i_nar _) dX7_isDoor_22 ?_
      first | exact ret_1 (by simp [*]) | exact ret_0 (by simp [*])

set_option maxHeartbeats 4000000 in
set_option maxRecDepth 100000 in
theorem c_X7_isStamp (l : Launch) (D : DT) (a : Nat → Nat) (fa fp fs fv fg fw fd ft fn : Nat → Int32) (p1 pm wk dm sp iw od : Int32) (mk : Nat) (hmk : fa 76 = nI mk) (h40 : mk ≤ 40) (x : Int32) : MR l yX7_isStamp wsX7_isStamp 1 22 D [.ref (a 0), .int x] (wM D a fa fp fs fv fg fw fd ft fn p1 pm wk dm sp iw od) (fun v => v = some (.int (b2i (rng mk x)))) := by
  refine MR.of (cc := cX7_isStamp) (maxL := 2) (ret := (some .boolean)) (lv := [(0, .ref (a 0)), (1, .int x)]) (by decide +kernel) rfl (Nat.le_of_ble_eq_true rfl) rfl ?_
  intro p e s m below meth c A X hr hmn
  have hinX70 : ∀ w ∈ wsX70, w ∈ wsX7_isStamp := fun w h => List.mem_cons_of_mem _ (List.mem_append_right _ h)
  have hl7 := List.mem_of_getElem? (l := wsX7_isStamp) (i := 1) rfl
  refine g_iload_n X dX7_isStamp_0 rfl 1 rfl rfl ?_
  refine g_iconst (v := (0 : Int32)) X dX7_isStamp_1 (by decide) rfl ?_
  refine g_aload_n X dX7_isStamp_2 rfl 0 rfl rfl ?_
  refine gM_get_at X dX7_isStamp_3 hinX70 hl7 rfl ?_
  refine g_bipush (v := (76 : Int32)) X dX7_isStamp_6 (by decide) rfl ?_
  refine gM_ld_at X dX7_isStamp_8 (k := 76) rfl (by decide) rfl ?_
  refine g_iconst (v := (1 : Int32)) X dX7_isStamp_9 (by decide) rfl ?_
  refine g_isub X dX7_isStamp_10 rfl ?_
  refine g_callSR (n := 3) (As := [_, _, _]) (rest := []) X (c_X7_in l D _ _ _) gX7_isStamp_X7_in rfl (by decide +kernel) ⟨Nat.le_of_ble_eq_true rfl, Nat.le_of_ble_eq_true rfl⟩ [] rfl rfl rfl rfl (Nat.le_of_ble_eq_true rfl) dX7_isStamp_11 ⟨Nat.le_of_ble_eq_true rfl, Nat.le_of_ble_eq_true rfl⟩ rfl (fun v hv => ?_)
  obtain rfl := hv
  refine g_st (st' := [_]) rfl ?_
  refine g_retR X hr (by first | rfl | exact b2i_nar _) dX7_isStamp_14 ?_
  refine ret_b (?_ : decide ((0 : Int) ≤ x.toInt ∧ x.toInt ≤ (fa 76 - 1 : Int32).toInt) = rng mk x)
  rw [hmk, mk_m1 (by omega)]
  unfold rng
  exact decide_eq_decide.mpr ⟨fun h => by omega, fun h => by omega⟩

set_option maxHeartbeats 4000000 in
set_option maxRecDepth 100000 in
theorem c_X7_of (l : Launch) (D : DT) (a : Nat → Nat) (fa fp fs fv fg fw fd ft fn : Nat → Int32) (p1 pm wk dm sp iw od : Int32) (q w : Nat) (hq : q < 40) (hw : w < 7) : MR l yX7_of wsX7_of 0 0 D [.ref (a 0), .int (nI q), .int (nI w)] (wM D a fa fp fs fv fg fw fd ft fn p1 pm wk dm sp iw od) (fun v => v = some (.int (ofM fa q w))) := by
  refine MR.of (cc := cX7_of) (maxL := 3) (ret := (some .int)) (lv := [(0, .ref (a 0)), (1, .int (nI q)), (2, .int (nI w))]) (by decide +kernel) rfl (Nat.le_of_ble_eq_true rfl) rfl ?_
  intro p e s m below meth c A X hr hmn
  have hinX70 : ∀ w ∈ wsX70, w ∈ wsX7_of := fun w h => List.mem_cons_of_mem _ (List.mem_append_right _ h)
  have hl7 := List.mem_of_getElem? (l := wsX7_of) (i := 1) rfl
  refine g_aload_n X dX7_of_0 rfl 0 rfl rfl ?_
  refine gM_get_at X dX7_of_1 hinX70 hl7 rfl ?_
  refine g_bipush (v := (127 : Int32)) X dX7_of_4 (by decide) rfl ?_
  refine g_bipush (v := (7 : Int32)) X dX7_of_6 (by decide) rfl ?_
  refine g_iload_n X dX7_of_8 rfl 1 rfl rfl ?_
  refine g_imul X dX7_of_9 rfl ?_
  refine g_iadd X dX7_of_10 rfl ?_
  refine g_iload_n X dX7_of_11 rfl 2 rfl rfl ?_
  refine g_iadd X dX7_of_12 rfl ?_
  refine g_topi (ix_of7 q w) ?_
  refine gM_ld_at X dX7_of_13 (by first | rfl | assumption) (by omega) rfl ?_
  refine g_retR X hr (by first | rfl | exact b2i_nar _) dX7_of_14 ?_
  rfl

set_option maxHeartbeats 4000000 in
set_option maxRecDepth 100000 in
theorem c_X7_leadsBy (l : Launch) (D : DT) (a : Nat → Nat) (fa fp fs fv fg fw fd ft fn : Nat → Int32) (p1 pm wk dm sp iw od : Int32) (g d : Nat) (hg : g < 6) (hd : d < 10) : MR l yX7_leadsBy wsX7_leadsBy 0 0 D [.ref (a 0), .int (nI g), .int (nI d)] (wM D a fa fp fs fv fg fw fd ft fn p1 pm wk dm sp iw od) (fun v => v = some (.int (ledM fa g d))) := by
  refine MR.of (cc := cX7_leadsBy) (maxL := 3) (ret := (some .int)) (lv := [(0, .ref (a 0)), (1, .int (nI g)), (2, .int (nI d))]) (by decide +kernel) rfl (Nat.le_of_ble_eq_true rfl) rfl ?_
  intro p e s m below meth c A X hr hmn
  have hinX70 : ∀ w ∈ wsX70, w ∈ wsX7_leadsBy := fun w h => List.mem_cons_of_mem _ (List.mem_append_right _ h)
  have hl7 := List.mem_of_getElem? (l := wsX7_leadsBy) (i := 1) rfl
  refine g_aload_n X dX7_leadsBy_0 rfl 0 rfl rfl ?_
  refine gM_get_at X dX7_leadsBy_1 hinX70 hl7 rfl ?_
  refine g_bipush (v := (16 : Int32)) X dX7_leadsBy_4 (by decide) rfl ?_
  refine g_bipush (v := (10 : Int32)) X dX7_leadsBy_6 (by decide) rfl ?_
  refine g_iload_n X dX7_leadsBy_8 rfl 1 rfl rfl ?_
  refine g_imul X dX7_leadsBy_9 rfl ?_
  refine g_iadd X dX7_leadsBy_10 rfl ?_
  refine g_iload_n X dX7_leadsBy_11 rfl 2 rfl rfl ?_
  refine g_iadd X dX7_leadsBy_12 rfl ?_
  refine g_topi (ix_door g d) ?_
  refine gM_ld_at X dX7_leadsBy_13 (by first | rfl | assumption) (by omega) rfl ?_
  refine g_retR X hr (by first | rfl | exact b2i_nar _) dX7_leadsBy_14 ?_
  rfl

set_option maxHeartbeats 4000000 in
set_option maxRecDepth 100000 in
theorem c_X7_ofNote (l : Launch) (D : DT) (a : Nat → Nat) (fa fp fs fv fg fw fd ft fn : Nat → Int32) (p1 pm wk dm sp iw od : Int32) (q w : Nat) (hq : q < 9) (hw : w < 4) : MR l yX7_ofNote wsX7_ofNote 0 0 D [.ref (a 0), .int (nI q), .int (nI w)] (wM D a fa fp fs fv fg fw fd ft fn p1 pm wk dm sp iw od) (fun v => v = some (.int (noteM fa q w))) := by
  refine MR.of (cc := cX7_ofNote) (maxL := 3) (ret := (some .int)) (lv := [(0, .ref (a 0)), (1, .int (nI q)), (2, .int (nI w))]) (by decide +kernel) rfl (Nat.le_of_ble_eq_true rfl) rfl ?_
  intro p e s m below meth c A X hr hmn
  have hinX70 : ∀ w ∈ wsX70, w ∈ wsX7_ofNote := fun w h => List.mem_cons_of_mem _ (List.mem_append_right _ h)
  have hl7 := List.mem_of_getElem? (l := wsX7_ofNote) (i := 1) rfl
  refine g_aload_n X dX7_ofNote_0 rfl 0 rfl rfl ?_
  refine gM_get_at X dX7_ofNote_1 hinX70 hl7 rfl ?_
  refine g_bipush (v := (91 : Int32)) X dX7_ofNote_4 (by decide) rfl ?_
  refine g_iconst (v := (4 : Int32)) X dX7_ofNote_6 (by decide) rfl ?_
  refine g_iload_n X dX7_ofNote_7 rfl 1 rfl rfl ?_
  refine g_imul X dX7_ofNote_8 rfl ?_
  refine g_iadd X dX7_ofNote_9 rfl ?_
  refine g_iload_n X dX7_ofNote_10 rfl 2 rfl rfl ?_
  refine g_iadd X dX7_ofNote_11 rfl ?_
  refine g_topi (ix_note q w) ?_
  refine gM_ld_at X dX7_ofNote_12 (by first | rfl | assumption) (by omega) rfl ?_
  refine g_retR X hr (by first | rfl | exact b2i_nar _) dX7_ofNote_13 ?_
  rfl
