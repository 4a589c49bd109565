set_option maxHeartbeats 4000000 in
set_option maxRecDepth 100000 in
theorem c_X7_takeGuestAndDoor (l : Launch) (D : DT) (a : Nat → Nat) (fa fp fs fv fg fw fd ft fn : Nat → Int32) (p1 : Int32) (pm : Int32) (wk : Int32) (L pos o : Nat) (w : Bool) (hL : L ≤ 80) (hs : pos ≤ L) (ho : o < 28) : MW l yX7_takeGuestAndDoor wsX7_takeGuestAndDoor 2 45 0 0 D [.ref (a 0)] (wM D a fa fp fs fv fg fw fd ft fn p1 pm wk (nI L) (nI pos) (b2i w) (nI o)) (fun v w2 => v = none ∧ w2 = (wM D a fa fp fs fv fg fw fd ft (qGD fd L o (pos, w, fn)).2.2 p1 pm wk (nI L) (nI (qGD fd L o (pos, w, fn)).1) (b2i (qGD fd L o (pos, w, fn)).2.1) (nI o)) ∧ (qGD fd L o (pos, w, fn)).1 ≤ L) := by
  refine MW.of (cc := cX7_takeGuestAndDoor) (maxL := 1) (ret := none) (lv := [(0, .ref (a 0))]) (by decide +kernel) rfl (Nat.le_of_ble_eq_true rfl) rfl ?_
  intro p e s m below meth c A hAe hAg X hr hmn
  have hinX70 : ∀ w ∈ wsX70, w ∈ wsX7_takeGuestAndDoor := fun w h => List.mem_cons_of_mem _ (List.mem_append_right _ h)
  have hle := hs
  refine g_aload_n X dX7_takeGuestAndDoor_0 rfl 0 rfl rfl ?_
  refine g_iconst (v := (0 : Int32)) X dX7_takeGuestAndDoor_1 (by decide) rfl ?_
  refine g_bipush (v := (48 : Int32)) X dX7_takeGuestAndDoor_2 (by decide) rfl ?_
  refine g_bipush (v := (53 : Int32)) X dX7_takeGuestAndDoor_4 (by decide) rfl ?_
  refine g_callVWs (n := 3) (As := [_, _, _]) (rest := []) X hAg rfl (c_X7_takeOne l D _ _ _ _ _ _ _ _ _ _ _ _ _  L _ o _ hL hle ho (0) (by omega) _ _ (by decide)) gX7_takeGuestAndDoor_X7_takeOne rfl (by decide +kernel) ⟨Nat.le_of_ble_eq_true rfl, Nat.le_of_ble_eq_true rfl⟩ rfl rfl  rfl rfl (Nat.le_of_ble_eq_true rfl) dX7_takeGuestAndDoor_6 ⟨Nat.le_of_ble_eq_true rfl, Nat.le_of_ble_eq_true rfl⟩ rfl (fun v w hv => ?_)
  obtain ⟨rfl, rfl, hle⟩ := hv
  refine ⟨rfl, ?_⟩
  refine g_st (st' := []) rfl ?_
  refine g_aload_n X dX7_takeGuestAndDoor_9 rfl 0 rfl rfl ?_
  refine g_bipush (v := (46 : Int32)) X dX7_takeGuestAndDoor_10 (by decide) rfl ?_
  refine g_callVWs (n := 1) (As := [_]) (rest := []) X hAg rfl (c_X7_takeSign l D _ _ _ _ _ _ _ _ _ _ _ _ _  L _ o _ hL hle ho _ (by decide)) gX7_takeGuestAndDoor_X7_takeSign rfl (by decide +kernel) ⟨Nat.le_of_ble_eq_true rfl, Nat.le_of_ble_eq_true rfl⟩ rfl rfl  rfl rfl (Nat.le_of_ble_eq_true rfl) dX7_takeGuestAndDoor_12 ⟨Nat.le_of_ble_eq_true rfl, Nat.le_of_ble_eq_true rfl⟩ rfl (fun v w hv => ?_)
  obtain ⟨rfl, rfl, hle⟩ := hv
  refine ⟨rfl, ?_⟩
  refine g_st (st' := []) rfl ?_
  refine g_aload_n X dX7_takeGuestAndDoor_15 rfl 0 rfl rfl ?_
  refine g_iconst (v := (1 : Int32)) X dX7_takeGuestAndDoor_16 (by decide) rfl ?_
  refine g_bipush (v := (48 : Int32)) X dX7_takeGuestAndDoor_17 (by decide) rfl ?_
  refine g_bipush (v := (57 : Int32)) X dX7_takeGuestAndDoor_19 (by decide) rfl ?_
  refine g_callVWs (n := 3) (As := [_, _, _]) (rest := []) X hAg rfl (c_X7_takeOne l D _ _ _ _ _ _ _ _ _ _ _ _ _  L _ o _ hL hle ho (1) (by omega) _ _ (by decide)) gX7_takeGuestAndDoor_X7_takeOne rfl (by decide +kernel) ⟨Nat.le_of_ble_eq_true rfl, Nat.le_of_ble_eq_true rfl⟩ rfl rfl  rfl rfl (Nat.le_of_ble_eq_true rfl) dX7_takeGuestAndDoor_21 ⟨Nat.le_of_ble_eq_true rfl, Nat.le_of_ble_eq_true rfl⟩ rfl (fun v w hv => ?_)
  obtain ⟨rfl, rfl, hle⟩ := hv
  refine ⟨rfl, ?_⟩
  refine g_st (st' := []) rfl ?_
  refine g_vretW X hr dX7_takeGuestAndDoor_24 hAe ?_
  exact ⟨rfl, rfl, hle⟩

set_option maxHeartbeats 4000000 in
set_option maxRecDepth 100000 in
theorem c_X7_takeRights (l : Launch) (D : DT) (a : Nat → Nat) (fa fp fs fv fg fw fd ft fn : Nat → Int32) (p1 : Int32) (pm : Int32) (wk : Int32) (L pos o : Nat) (w : Bool) (hL : L ≤ 80) (hs : pos ≤ L) (ho : o < 28) (pl : Nat) (hpl : pl < 4) : MW l yX7_takeRights wsX7_takeRights 2 45 0 0 D [.ref (a 0), .int (nI pl)] (wM D a fa fp fs fv fg fw fd ft fn p1 pm wk (nI L) (nI pos) (b2i w) (nI o)) (fun v w2 => v = none ∧ w2 = (wM D a fa fp fs fv fg fw fd ft (qRights fd L o pl (pos, w, fn)).2.2 p1 pm wk (nI L) (nI (qRights fd L o pl (pos, w, fn)).1) (b2i (qRights fd L o pl (pos, w, fn)).2.1) (nI o)) ∧ (qRights fd L o pl (pos, w, fn)).1 ≤ L) := by
  refine MW.of (cc := cX7_takeRights) (maxL := 2) (ret := none) (lv := [(0, .ref (a 0)), (1, .int (nI pl))]) (by decide +kernel) rfl (Nat.le_of_ble_eq_true rfl) rfl ?_
  intro p e s m below meth c A hAe hAg X hr hmn
  have hinX70 : ∀ w ∈ wsX70, w ∈ wsX7_takeRights := fun w h => List.mem_cons_of_mem _ (List.mem_append_right _ h)
  have hle := hs
  refine g_aload_n X dX7_takeRights_0 rfl 0 rfl rfl ?_
  refine g_bipush (v := (42 : Int32)) X dX7_takeRights_1 (by decide) rfl ?_
  refine g_callVWs (n := 1) (As := [_]) (rest := []) X hAg rfl (c_X7_takeSign l D _ _ _ _ _ _ _ _ _ _ _ _ _  L _ o _ hL hle ho _ (by decide)) gX7_takeRights_X7_takeSign rfl (by decide +kernel) ⟨Nat.le_of_ble_eq_true rfl, Nat.le_of_ble_eq_true rfl⟩ rfl rfl  rfl rfl (Nat.le_of_ble_eq_true rfl) dX7_takeRights_3 ⟨Nat.le_of_ble_eq_true rfl, Nat.le_of_ble_eq_true rfl⟩ rfl (fun v w hv => ?_)
  obtain ⟨rfl, rfl, hle⟩ := hv
  refine ⟨rfl, ?_⟩
  refine g_st (st' := []) rfl ?_
  refine g_aload_n X dX7_takeRights_6 rfl 0 rfl rfl ?_
  refine g_iload_n X dX7_takeRights_7 rfl 1 rfl rfl ?_
  refine g_bipush (v := (49 : Int32)) X dX7_takeRights_8 (by decide) rfl ?_
  refine g_bipush (v := (55 : Int32)) X dX7_takeRights_10 (by decide) rfl ?_
  refine g_callVWs (n := 3) (As := [_, _, _]) (rest := []) X hAg rfl (c_X7_takeOne l D _ _ _ _ _ _ _ _ _ _ _ _ _  L _ o _ hL hle ho (pl) (by omega) _ _ (by decide)) gX7_takeRights_X7_takeOne rfl (by decide +kernel) ⟨Nat.le_of_ble_eq_true rfl, Nat.le_of_ble_eq_true rfl⟩ rfl rfl  rfl rfl (Nat.le_of_ble_eq_true rfl) dX7_takeRights_12 ⟨Nat.le_of_ble_eq_true rfl, Nat.le_of_ble_eq_true rfl⟩ rfl (fun v w hv => ?_)
  obtain ⟨rfl, rfl, hle⟩ := hv
  refine ⟨rfl, ?_⟩
  refine g_st (st' := []) rfl ?_
  refine g_vretW X hr dX7_takeRights_15 hAe ?_
  exact ⟨rfl, rfl, hle⟩

set_option maxHeartbeats 4000000 in
set_option maxRecDepth 100000 in
theorem c_X7_takeGiving (l : Launch) (D : DT) (a : Nat → Nat) (fa fp fs fv fg fw fd ft fn : Nat → Int32) (p1 : Int32) (pm : Int32) (wk : Int32) (L pos o : Nat) (w : Bool) (hL : L ≤ 80) (hs : pos ≤ L) (ho : o < 28) : MW l yX7_takeGiving wsX7_takeGiving 3 66 0 0 D [.ref (a 0)] (wM D a fa fp fs fv fg fw fd ft fn p1 pm wk (nI L) (nI pos) (b2i w) (nI o)) (fun v w2 => v = none ∧ w2 = (wM D a fa fp fs fv fg fw fd ft (qGiving fd L o (pos, w, fn)).2.2 p1 pm wk (nI L) (nI (qGiving fd L o (pos, w, fn)).1) (b2i (qGiving fd L o (pos, w, fn)).2.1) (nI o)) ∧ (qGiving fd L o (pos, w, fn)).1 ≤ L) := by
  refine MW.of (cc := cX7_takeGiving) (maxL := 1) (ret := none) (lv := [(0, .ref (a 0))]) (by decide +kernel) rfl (Nat.le_of_ble_eq_true rfl) rfl ?_
  intro p e s m below meth c A hAe hAg X hr hmn
  have hinX70 : ∀ w ∈ wsX70, w ∈ wsX7_takeGiving := fun w h => List.mem_cons_of_mem _ (List.mem_append_right _ h)
  have hle := hs
  refine g_aload_n X dX7_takeGiving_0 rfl 0 rfl rfl ?_
  refine g_iconst (v := (0 : Int32)) X dX7_takeGiving_1 (by decide) rfl ?_
  refine g_bipush (v := (48 : Int32)) X dX7_takeGiving_2 (by decide) rfl ?_
  refine g_bipush (v := (53 : Int32)) X dX7_takeGiving_4 (by decide) rfl ?_
  refine g_callVWs (n := 3) (As := [_, _, _]) (rest := []) X hAg rfl (c_X7_takeOne l D _ _ _ _ _ _ _ _ _ _ _ _ _  L _ o _ hL hle ho (0) (by omega) _ _ (by decide)) gX7_takeGiving_X7_takeOne rfl (by decide +kernel) ⟨Nat.le_of_ble_eq_true rfl, Nat.le_of_ble_eq_true rfl⟩ rfl rfl  rfl rfl (Nat.le_of_ble_eq_true rfl) dX7_takeGiving_6 ⟨Nat.le_of_ble_eq_true rfl, Nat.le_of_ble_eq_true rfl⟩ rfl (fun v w hv => ?_)
  obtain ⟨rfl, rfl, hle⟩ := hv
  refine ⟨rfl, ?_⟩
  refine g_st (st' := []) rfl ?_
  refine g_aload_n X dX7_takeGiving_9 rfl 0 rfl rfl ?_
  refine g_bipush (v := (62 : Int32)) X dX7_takeGiving_10 (by decide) rfl ?_
  refine g_callVWs (n := 1) (As := [_]) (rest := []) X hAg rfl (c_X7_takeSign l D _ _ _ _ _ _ _ _ _ _ _ _ _  L _ o _ hL hle ho _ (by decide)) gX7_takeGiving_X7_takeSign rfl (by decide +kernel) ⟨Nat.le_of_ble_eq_true rfl, Nat.le_of_ble_eq_true rfl⟩ rfl rfl  rfl rfl (Nat.le_of_ble_eq_true rfl) dX7_takeGiving_12 ⟨Nat.le_of_ble_eq_true rfl, Nat.le_of_ble_eq_true rfl⟩ rfl (fun v w hv => ?_)
  obtain ⟨rfl, rfl, hle⟩ := hv
  refine ⟨rfl, ?_⟩
  refine g_st (st' := []) rfl ?_
  refine g_aload_n X dX7_takeGiving_15 rfl 0 rfl rfl ?_
  refine g_iconst (v := (1 : Int32)) X dX7_takeGiving_16 (by decide) rfl ?_
  refine g_bipush (v := (48 : Int32)) X dX7_takeGiving_17 (by decide) rfl ?_
  refine g_bipush (v := (53 : Int32)) X dX7_takeGiving_19 (by decide) rfl ?_
  refine g_callVWs (n := 3) (As := [_, _, _]) (rest := []) X hAg rfl (c_X7_takeOne l D _ _ _ _ _ _ _ _ _ _ _ _ _  L _ o _ hL hle ho (1) (by omega) _ _ (by decide)) gX7_takeGiving_X7_takeOne rfl (by decide +kernel) ⟨Nat.le_of_ble_eq_true rfl, Nat.le_of_ble_eq_true rfl⟩ rfl rfl  rfl rfl (Nat.le_of_ble_eq_true rfl) dX7_takeGiving_21 ⟨Nat.le_of_ble_eq_true rfl, Nat.le_of_ble_eq_true rfl⟩ rfl (fun v w hv => ?_)
  obtain ⟨rfl, rfl, hle⟩ := hv
  refine ⟨rfl, ?_⟩
  refine g_st (st' := []) rfl ?_
  refine g_aload_n X dX7_takeGiving_24 rfl 0 rfl rfl ?_
  refine g_bipush (v := (58 : Int32)) X dX7_takeGiving_25 (by decide) rfl ?_
  refine g_callVWs (n := 1) (As := [_]) (rest := []) X hAg rfl (c_X7_takeSign l D _ _ _ _ _ _ _ _ _ _ _ _ _  L _ o _ hL hle ho _ (by decide)) gX7_takeGiving_X7_takeSign rfl (by decide +kernel) ⟨Nat.le_of_ble_eq_true rfl, Nat.le_of_ble_eq_true rfl⟩ rfl rfl  rfl rfl (Nat.le_of_ble_eq_true rfl) dX7_takeGiving_27 ⟨Nat.le_of_ble_eq_true rfl, Nat.le_of_ble_eq_true rfl⟩ rfl (fun v w hv => ?_)
  obtain ⟨rfl, rfl, hle⟩ := hv
  refine ⟨rfl, ?_⟩
  refine g_st (st' := []) rfl ?_
  refine g_aload_n X dX7_takeGiving_30 rfl 0 rfl rfl ?_
  refine g_iconst (v := (2 : Int32)) X dX7_takeGiving_31 (by decide) rfl ?_
  refine g_callVWs (n := 1) (As := [_]) (rest := []) X hAg rfl (c_X7_takeNumber l D _ _ _ _ _ _ _ _ _ _ _ _ _  L _ o _ hL hle ho (2) (by omega)) gX7_takeGiving_X7_takeNumber rfl (by decide +kernel) ⟨Nat.le_of_ble_eq_true rfl, Nat.le_of_ble_eq_true rfl⟩ rfl rfl  rfl rfl (Nat.le_of_ble_eq_true rfl) dX7_takeGiving_32 ⟨Nat.le_of_ble_eq_true rfl, Nat.le_of_ble_eq_true rfl⟩ rfl (fun v w hv => ?_)
  obtain ⟨rfl, rfl, hle⟩ := hv
  refine ⟨rfl, ?_⟩
  refine g_st (st' := []) rfl ?_
  refine g_aload_n X dX7_takeGiving_35 rfl 0 rfl rfl ?_
  refine g_iconst (v := (3 : Int32)) X dX7_takeGiving_36 (by decide) rfl ?_
  refine g_callVWs (n := 1) (As := [_]) (rest := []) X hAg rfl (c_X7_takeRights l D _ _ _ _ _ _ _ _ _ _ _ _ _  L _ o _ hL hle ho (3) (by omega)) gX7_takeGiving_X7_takeRights rfl (by decide +kernel) ⟨Nat.le_of_ble_eq_true rfl, Nat.le_of_ble_eq_true rfl⟩ rfl rfl  rfl rfl (Nat.le_of_ble_eq_true rfl) dX7_takeGiving_37 ⟨Nat.le_of_ble_eq_true rfl, Nat.le_of_ble_eq_true rfl⟩ rfl (fun v w hv => ?_)
  obtain ⟨rfl, rfl, hle⟩ := hv
  refine ⟨rfl, ?_⟩
  refine g_st (st' := []) rfl ?_
  refine g_vretW X hr dX7_takeGiving_40 hAe ?_
  exact ⟨rfl, rfl, hle⟩

set_option maxHeartbeats 4000000 in
set_option maxRecDepth 100000 in
theorem c_X7_takeBehind (l : Launch) (D : DT) (a : Nat → Nat) (fa fp fs fv fg fw fd ft fn : Nat → Int32) (p1 : Int32) (pm : Int32) (wk : Int32) (L pos o : Nat) (w : Bool) (hL : L ≤ 80) (hs : pos ≤ L) (ho : o < 28) (ch : Int32) : MW l yX7_takeBehind wsX7_takeBehind 4 86 0 0 D [.ref (a 0), .int ch] (wM D a fa fp fs fv fg fw fd ft fn p1 pm wk (nI L) (nI pos) (b2i w) (nI o)) (fun v w2 => v = none ∧ w2 = (wM D a fa fp fs fv fg fw fd ft (qBehind fd L o ch (pos, w, fn)).2.2 p1 pm wk (nI L) (nI (qBehind fd L o ch (pos, w, fn)).1) (b2i (qBehind fd L o ch (pos, w, fn)).2.1) (nI o)) ∧ (qBehind fd L o ch (pos, w, fn)).1 ≤ L) := by
  refine MW.of (cc := cX7_takeBehind) (maxL := 2) (ret := none) (lv := [(0, .ref (a 0)), (1, .int ch)]) (by decide +kernel) rfl (Nat.le_of_ble_eq_true rfl) rfl ?_
  intro p e s m below meth c A hAe hAg X hr hmn
  have hinX70 : ∀ w ∈ wsX70, w ∈ wsX7_takeBehind := fun w h => List.mem_cons_of_mem _ (List.mem_append_right _ h)
  have hle := hs
  refine g_iload_n X dX7_takeBehind_0 rfl 1 rfl rfl ?_
  rcases Classical.em (ch = (100 : Int32)) with ec1 | ne100
  · refine g_lookup X dX7_takeBehind_1 (by decide) (off := 125) (by rw [ec1]; decide) 126 (by decide) ?_
    refine g_aload_n X dX7_takeBehind_126 rfl 0 rfl rfl ?_
    refine g_callVWs (n := 0) (As := []) (rest := []) X hAg rfl (c_X7_takeGuestAndDoor l D _ _ _ _ _ _ _ _ _ _ _ _ _  L _ o _ hL hle ho) gX7_takeBehind_X7_takeGuestAndDoor rfl (by decide +kernel) ⟨Nat.le_of_ble_eq_true rfl, Nat.le_of_ble_eq_true rfl⟩ rfl rfl  rfl rfl (Nat.le_of_ble_eq_true rfl) dX7_takeBehind_127 ⟨Nat.le_of_ble_eq_true rfl, Nat.le_of_ble_eq_true rfl⟩ rfl (fun v w hv => ?_)
    obtain ⟨rfl, rfl, hle⟩ := hv
    refine ⟨rfl, ?_⟩
    refine g_st (st' := []) rfl ?_
    refine g_aload_n X dX7_takeBehind_130 rfl 0 rfl rfl ?_
    refine g_bipush (v := (61 : Int32)) X dX7_takeBehind_131 (by decide) rfl ?_
    refine g_callVWs (n := 1) (As := [_]) (rest := []) X hAg rfl (c_X7_takeSign l D _ _ _ _ _ _ _ _ _ _ _ _ _  L _ o _ hL hle ho _ (by decide)) gX7_takeBehind_X7_takeSign rfl (by decide +kernel) ⟨Nat.le_of_ble_eq_true rfl, Nat.le_of_ble_eq_true rfl⟩ rfl rfl  rfl rfl (Nat.le_of_ble_eq_true rfl) dX7_takeBehind_133 ⟨Nat.le_of_ble_eq_true rfl, Nat.le_of_ble_eq_true rfl⟩ rfl (fun v w hv => ?_)
    obtain ⟨rfl, rfl, hle⟩ := hv
    refine ⟨rfl, ?_⟩
    refine g_st (st' := []) rfl ?_
    refine g_aload_n X dX7_takeBehind_136 rfl 0 rfl rfl ?_
    refine g_iconst (v := (2 : Int32)) X dX7_takeBehind_137 (by decide) rfl ?_
    refine g_callVWs (n := 1) (As := [_]) (rest := []) X hAg rfl (c_X7_takesNone l D _ _ _ _ _ _ _ _ _ _ _ _ _  L _ o _ hL hle ho (2) (by omega)) gX7_takeBehind_X7_takesNone rfl (by decide +kernel) ⟨Nat.le_of_ble_eq_true rfl, Nat.le_of_ble_eq_true rfl⟩ rfl rfl  rfl rfl (Nat.le_of_ble_eq_true rfl) dX7_takeBehind_138 ⟨Nat.le_of_ble_eq_true rfl, Nat.le_of_ble_eq_true rfl⟩ rfl (fun v w hv => ?_)
    obtain ⟨rfl, rfl, hle⟩ := hv
    refine ⟨rfl, ?_⟩
    refine g_st (st' := [_]) rfl ?_
    refine g_if_ne X dX7_takeBehind_141 160 (by decide) rfl (fun h141 => ?_) (fun h141 => ?_)
    · replace h141 := b2i_n0 h141
      refine g_vretW X hr dX7_takeBehind_160 hAe ?_
      subst ec1
      first
      | (rw [qB100, qNoOr_t (x := qSign fd L 61 (qGD fd L o (pos, w, fn))) h141]; exact ⟨rfl, rfl, hle⟩)
      | (rw [qB100, qNoOr_f (x := qSign fd L 61 (qGD fd L o (pos, w, fn))) h141]; exact ⟨rfl, rfl, hle⟩)
    · replace h141 := b2i_0 h141
      refine g_aload_n X dX7_takeBehind_144 rfl 0 rfl rfl ?_
      refine g_iconst (v := (2 : Int32)) X dX7_takeBehind_145 (by decide) rfl ?_
      refine g_callVWs (n := 1) (As := [_]) (rest := []) X hAg rfl (c_X7_takeNumber l D _ _ _ _ _ _ _ _ _ _ _ _ _  L _ o _ hL hle ho (2) (by omega)) gX7_takeBehind_X7_takeNumber rfl (by decide +kernel) ⟨Nat.le_of_ble_eq_true rfl, Nat.le_of_ble_eq_true rfl⟩ rfl rfl  rfl rfl (Nat.le_of_ble_eq_true rfl) dX7_takeBehind_146 ⟨Nat.le_of_ble_eq_true rfl, Nat.le_of_ble_eq_true rfl⟩ rfl (fun v w hv => ?_)
      obtain ⟨rfl, rfl, hle⟩ := hv
      refine ⟨rfl, ?_⟩
      refine g_st (st' := []) rfl ?_
      refine g_goto X dX7_takeBehind_149 160 (by decide) ?_
      refine g_vretW X hr dX7_takeBehind_160 hAe ?_
      subst ec1
      first
      | (rw [qB100, qNoOr_t (x := qSign fd L 61 (qGD fd L o (pos, w, fn))) h141]; exact ⟨rfl, rfl, hle⟩)
      | (rw [qB100, qNoOr_f (x := qSign fd L 61 (qGD fd L o (pos, w, fn))) h141]; exact ⟨rfl, rfl, hle⟩)
  · rcases Classical.em (ch = (111 : Int32)) with ec1 | ne111
    · refine g_lookup X dX7_takeBehind_1 (by decide) (off := 51) (by rw [ec1]; decide) 52 (by decide) ?_
      refine g_aload_n X dX7_takeBehind_52 rfl 0 rfl rfl ?_
      refine g_iconst (v := (0 : Int32)) X dX7_takeBehind_53 (by decide) rfl ?_
      refine g_callVWs (n := 1) (As := [_]) (rest := []) X hAg rfl (c_X7_takeNumber l D _ _ _ _ _ _ _ _ _ _ _ _ _  L _ o _ hL hle ho (0) (by omega)) gX7_takeBehind_X7_takeNumber rfl (by decide +kernel) ⟨Nat.le_of_ble_eq_true rfl, Nat.le_of_ble_eq_true rfl⟩ rfl rfl  rfl rfl (Nat.le_of_ble_eq_true rfl) dX7_takeBehind_54 ⟨Nat.le_of_ble_eq_true rfl, Nat.le_of_ble_eq_true rfl⟩ rfl (fun v w hv => ?_)
      obtain ⟨rfl, rfl, hle⟩ := hv
      refine ⟨rfl, ?_⟩
      refine g_st (st' := []) rfl ?_
      refine g_aload_n X dX7_takeBehind_57 rfl 0 rfl rfl ?_
      refine g_bipush (v := (61 : Int32)) X dX7_takeBehind_58 (by decide) rfl ?_
      refine g_callVWs (n := 1) (As := [_]) (rest := []) X hAg rfl (c_X7_takeSign l D _ _ _ _ _ _ _ _ _ _ _ _ _  L _ o _ hL hle ho _ (by decide)) gX7_takeBehind_X7_takeSign rfl (by decide +kernel) ⟨Nat.le_of_ble_eq_true rfl, Nat.le_of_ble_eq_true rfl⟩ rfl rfl  rfl rfl (Nat.le_of_ble_eq_true rfl) dX7_takeBehind_60 ⟨Nat.le_of_ble_eq_true rfl, Nat.le_of_ble_eq_true rfl⟩ rfl (fun v w hv => ?_)
      obtain ⟨rfl, rfl, hle⟩ := hv
      refine ⟨rfl, ?_⟩
      refine g_st (st' := []) rfl ?_
      refine g_aload_n X dX7_takeBehind_63 rfl 0 rfl rfl ?_
      refine g_iconst (v := (1 : Int32)) X dX7_takeBehind_64 (by decide) rfl ?_
      refine g_callVWs (n := 1) (As := [_]) (rest := []) X hAg rfl (c_X7_takesNone l D _ _ _ _ _ _ _ _ _ _ _ _ _  L _ o _ hL hle ho (1) (by omega)) gX7_takeBehind_X7_takesNone rfl (by decide +kernel) ⟨Nat.le_of_ble_eq_true rfl, Nat.le_of_ble_eq_true rfl⟩ rfl rfl  rfl rfl (Nat.le_of_ble_eq_true rfl) dX7_takeBehind_65 ⟨Nat.le_of_ble_eq_true rfl, Nat.le_of_ble_eq_true rfl⟩ rfl (fun v w hv => ?_)
      obtain ⟨rfl, rfl, hle⟩ := hv
      refine ⟨rfl, ?_⟩
      refine g_st (st' := [_]) rfl ?_
      refine g_if_ne X dX7_takeBehind_68 160 (by decide) rfl (fun h68 => ?_) (fun h68 => ?_)
      · replace h68 := b2i_n0 h68
        refine g_vretW X hr dX7_takeBehind_160 hAe ?_
        subst ec1
        first
        | (rw [qB111, qNoOr_t (x := qSign fd L 61 (qNum fd L o 0 (pos, w, fn))) h68]; exact ⟨rfl, rfl, hle⟩)
        | (rw [qB111, qNoOr_f (x := qSign fd L 61 (qNum fd L o 0 (pos, w, fn))) h68]; exact ⟨rfl, rfl, hle⟩)
      · replace h68 := b2i_0 h68
        refine g_aload_n X dX7_takeBehind_71 rfl 0 rfl rfl ?_
        refine g_iconst (v := (1 : Int32)) X dX7_takeBehind_72 (by decide) rfl ?_
        refine g_bipush (v := (48 : Int32)) X dX7_takeBehind_73 (by decide) rfl ?_
        refine g_bipush (v := (53 : Int32)) X dX7_takeBehind_75 (by decide) rfl ?_
        refine g_callVWs (n := 3) (As := [_, _, _]) (rest := []) X hAg rfl (c_X7_takeOne l D _ _ _ _ _ _ _ _ _ _ _ _ _  L _ o _ hL hle ho (1) (by omega) _ _ (by decide)) gX7_takeBehind_X7_takeOne rfl (by decide +kernel) ⟨Nat.le_of_ble_eq_true rfl, Nat.le_of_ble_eq_true rfl⟩ rfl rfl  rfl rfl (Nat.le_of_ble_eq_true rfl) dX7_takeBehind_77 ⟨Nat.le_of_ble_eq_true rfl, Nat.le_of_ble_eq_true rfl⟩ rfl (fun v w hv => ?_)
        obtain ⟨rfl, rfl, hle⟩ := hv
        refine ⟨rfl, ?_⟩
        refine g_st (st' := []) rfl ?_
        refine g_goto X dX7_takeBehind_80 160 (by decide) ?_
        refine g_vretW X hr dX7_takeBehind_160 hAe ?_
        subst ec1
        first
        | (rw [qB111, qNoOr_t (x := qSign fd L 61 (qNum fd L o 0 (pos, w, fn))) h68]; exact ⟨rfl, rfl, hle⟩)
        | (rw [qB111, qNoOr_f (x := qSign fd L 61 (qNum fd L o 0 (pos, w, fn))) h68]; exact ⟨rfl, rfl, hle⟩)
    · rcases Classical.em (ch = (112 : Int32)) with ec1 | ne112
      · refine g_lookup X dX7_takeBehind_1 (by decide) (off := 89) (by rw [ec1]; decide) 90 (by decide) ?_
        refine g_aload_n X dX7_takeBehind_90 rfl 0 rfl rfl ?_
        refine g_iconst (v := (0 : Int32)) X dX7_takeBehind_91 (by decide) rfl ?_
        refine g_callVWs (n := 1) (As := [_]) (rest := []) X hAg rfl (c_X7_takeNumber l D _ _ _ _ _ _ _ _ _ _ _ _ _  L _ o _ hL hle ho (0) (by omega)) gX7_takeBehind_X7_takeNumber rfl (by decide +kernel) ⟨Nat.le_of_ble_eq_true rfl, Nat.le_of_ble_eq_true rfl⟩ rfl rfl  rfl rfl (Nat.le_of_ble_eq_true rfl) dX7_takeBehind_92 ⟨Nat.le_of_ble_eq_true rfl, Nat.le_of_ble_eq_true rfl⟩ rfl (fun v w hv => ?_)
        obtain ⟨rfl, rfl, hle⟩ := hv
        refine ⟨rfl, ?_⟩
        refine g_st (st' := []) rfl ?_
        refine g_aload_n X dX7_takeBehind_95 rfl 0 rfl rfl ?_
        refine g_bipush (v := (62 : Int32)) X dX7_takeBehind_96 (by decide) rfl ?_
        refine g_callVWs (n := 1) (As := [_]) (rest := []) X hAg rfl (c_X7_takeSign l D _ _ _ _ _ _ _ _ _ _ _ _ _  L _ o _ hL hle ho _ (by decide)) gX7_takeBehind_X7_takeSign rfl (by decide +kernel) ⟨Nat.le_of_ble_eq_true rfl, Nat.le_of_ble_eq_true rfl⟩ rfl rfl  rfl rfl (Nat.le_of_ble_eq_true rfl) dX7_takeBehind_98 ⟨Nat.le_of_ble_eq_true rfl, Nat.le_of_ble_eq_true rfl⟩ rfl (fun v w hv => ?_)
        obtain ⟨rfl, rfl, hle⟩ := hv
        refine ⟨rfl, ?_⟩
        refine g_st (st' := []) rfl ?_
        refine g_aload_n X dX7_takeBehind_101 rfl 0 rfl rfl ?_
        refine g_iconst (v := (1 : Int32)) X dX7_takeBehind_102 (by decide) rfl ?_
        refine g_bipush (v := (48 : Int32)) X dX7_takeBehind_103 (by decide) rfl ?_
        refine g_bipush (v := (53 : Int32)) X dX7_takeBehind_105 (by decide) rfl ?_
        refine g_callVWs (n := 3) (As := [_, _, _]) (rest := []) X hAg rfl (c_X7_takeOne l D _ _ _ _ _ _ _ _ _ _ _ _ _  L _ o _ hL hle ho (1) (by omega) _ _ (by decide)) gX7_takeBehind_X7_takeOne rfl (by decide +kernel) ⟨Nat.le_of_ble_eq_true rfl, Nat.le_of_ble_eq_true rfl⟩ rfl rfl  rfl rfl (Nat.le_of_ble_eq_true rfl) dX7_takeBehind_107 ⟨Nat.le_of_ble_eq_true rfl, Nat.le_of_ble_eq_true rfl⟩ rfl (fun v w hv => ?_)
        obtain ⟨rfl, rfl, hle⟩ := hv
        refine ⟨rfl, ?_⟩
        refine g_st (st' := []) rfl ?_
        refine g_aload_n X dX7_takeBehind_110 rfl 0 rfl rfl ?_
        refine g_iconst (v := (2 : Int32)) X dX7_takeBehind_111 (by decide) rfl ?_
        refine g_callVWs (n := 1) (As := [_]) (rest := []) X hAg rfl (c_X7_takeRights l D _ _ _ _ _ _ _ _ _ _ _ _ _  L _ o _ hL hle ho (2) (by omega)) gX7_takeBehind_X7_takeRights rfl (by decide +kernel) ⟨Nat.le_of_ble_eq_true rfl, Nat.le_of_ble_eq_true rfl⟩ rfl rfl  rfl rfl (Nat.le_of_ble_eq_true rfl) dX7_takeBehind_112 ⟨Nat.le_of_ble_eq_true rfl, Nat.le_of_ble_eq_true rfl⟩ rfl (fun v w hv => ?_)
        obtain ⟨rfl, rfl, hle⟩ := hv
        refine ⟨rfl, ?_⟩
        refine g_st (st' := []) rfl ?_
        refine g_goto X dX7_takeBehind_115 160 (by decide) ?_
        refine g_vretW X hr dX7_takeBehind_160 hAe ?_
        subst ec1
        rw [qB112]
        exact ⟨rfl, rfl, hle⟩
      · rcases Classical.em (ch = (115 : Int32)) with ec1 | ne115
        · refine g_lookup X dX7_takeBehind_1 (by decide) (off := 82) (by rw [ec1]; decide) 83 (by decide) ?_
          refine g_aload_n X dX7_takeBehind_83 rfl 0 rfl rfl ?_
          refine g_callVWs (n := 0) (As := []) (rest := []) X hAg rfl (c_X7_takeGiving l D _ _ _ _ _ _ _ _ _ _ _ _ _  L _ o _ hL hle ho) gX7_takeBehind_X7_takeGiving rfl (by decide +kernel) ⟨Nat.le_of_ble_eq_true rfl, Nat.le_of_ble_eq_true rfl⟩ rfl rfl  rfl rfl (Nat.le_of_ble_eq_true rfl) dX7_takeBehind_84 ⟨Nat.le_of_ble_eq_true rfl, Nat.le_of_ble_eq_true rfl⟩ rfl (fun v w hv => ?_)
          obtain ⟨rfl, rfl, hle⟩ := hv
          refine ⟨rfl, ?_⟩
          refine g_st (st' := []) rfl ?_
          refine g_goto X dX7_takeBehind_87 160 (by decide) ?_
          refine g_vretW X hr dX7_takeBehind_160 hAe ?_
          subst ec1
          rw [qB115]
          exact ⟨rfl, rfl, hle⟩
        · rcases Classical.em (ch = (116 : Int32)) with ec1 | ne116
          · refine g_lookup X dX7_takeBehind_1 (by decide) (off := 117) (by rw [ec1]; decide) 118 (by decide) ?_
            refine g_aload_n X dX7_takeBehind_118 rfl 0 rfl rfl ?_
            refine g_iconst (v := (0 : Int32)) X dX7_takeBehind_119 (by decide) rfl ?_
            refine g_callVWs (n := 1) (As := [_]) (rest := []) X hAg rfl (c_X7_takeNumber l D _ _ _ _ _ _ _ _ _ _ _ _ _  L _ o _ hL hle ho (0) (by omega)) gX7_takeBehind_X7_takeNumber rfl (by decide +kernel) ⟨Nat.le_of_ble_eq_true rfl, Nat.le_of_ble_eq_true rfl⟩ rfl rfl  rfl rfl (Nat.le_of_ble_eq_true rfl) dX7_takeBehind_120 ⟨Nat.le_of_ble_eq_true rfl, Nat.le_of_ble_eq_true rfl⟩ rfl (fun v w hv => ?_)
            obtain ⟨rfl, rfl, hle⟩ := hv
            refine ⟨rfl, ?_⟩
            refine g_st (st' := []) rfl ?_
            refine g_goto X dX7_takeBehind_123 160 (by decide) ?_
            refine g_vretW X hr dX7_takeBehind_160 hAe ?_
            subst ec1
            rw [qB116]
            exact ⟨rfl, rfl, hle⟩
          · refine g_lookup X dX7_takeBehind_1 (by decide) (off := 151) (by show Op.lookupswitch.offset [(100, 125), (111, 51), (112, 89), (115, 82), (116, 117)] (151) (ch).toInt = (151); rw [lv_osw (a := 100) ne100 rfl, lv_osw (a := 111) ne111 rfl, lv_osw (a := 112) ne112 rfl, lv_osw (a := 115) ne115 rfl, lv_osw (a := 116) ne116 rfl]; rfl) 152 (by decide) ?_
            refine g_aload_n X dX7_takeBehind_152 rfl 0 rfl rfl ?_
            refine g_callVWs (n := 0) (As := []) (rest := []) X hAg rfl (c_X7_takeGuestAndDoor l D _ _ _ _ _ _ _ _ _ _ _ _ _  L _ o _ hL hle ho) gX7_takeBehind_X7_takeGuestAndDoor rfl (by decide +kernel) ⟨Nat.le_of_ble_eq_true rfl, Nat.le_of_ble_eq_true rfl⟩ rfl rfl  rfl rfl (Nat.le_of_ble_eq_true rfl) dX7_takeBehind_153 ⟨Nat.le_of_ble_eq_true rfl, Nat.le_of_ble_eq_true rfl⟩ rfl (fun v w hv => ?_)
            obtain ⟨rfl, rfl, hle⟩ := hv
            refine ⟨rfl, ?_⟩
            refine g_st (st' := []) rfl ?_
            refine g_aload_n X dX7_takeBehind_156 rfl 0 rfl rfl ?_
            refine g_callVWs (n := 0) (As := []) (rest := []) X hAg rfl (c_X7_takeNeed l D _ _ _ _ _ _ _ _ _ _ _ _ _  L _ o _ hL hle ho) gX7_takeBehind_X7_takeNeed rfl (by decide +kernel) ⟨Nat.le_of_ble_eq_true rfl, Nat.le_of_ble_eq_true rfl⟩ rfl rfl  rfl rfl (Nat.le_of_ble_eq_true rfl) dX7_takeBehind_157 ⟨Nat.le_of_ble_eq_true rfl, Nat.le_of_ble_eq_true rfl⟩ rfl (fun v w hv => ?_)
            obtain ⟨rfl, rfl, hle⟩ := hv
            refine ⟨rfl, ?_⟩
            refine g_st (st' := []) rfl ?_
            refine g_vretW X hr dX7_takeBehind_160 hAe ?_
            rw [qBelse ne100 ne111 ne112 ne115 ne116]
            exact ⟨rfl, rfl, hle⟩

set_option maxHeartbeats 4000000 in
set_option maxRecDepth 100000 in
theorem c_X7_takeOrder (l : Launch) (D : DT) (a : Nat → Nat) (fa fp fs fv fg fw fd ft fn : Nat → Int32) (p1 : Int32) (pm : Int32) (wk : Int32) (L pos o : Nat) (w : Bool) (hL : L ≤ 80) (hs : pos ≤ L) (ho : o < 28) : MW l yX7_takeOrder wsX7_takeOrder 5 107 0 0 D [.ref (a 0)] (wM D a fa fp fs fv fg fw fd ft fn p1 pm wk (nI L) (nI pos) (b2i w) (nI o)) (fun v w2 => v = none ∧ w2 = (wM D a fa fp fs fv fg fw fd (ordS fd L pos fn ft o).2.1 (ordS fd L pos fn ft o).1.2.2 p1 pm wk (nI L) (nI (ordS fd L pos fn ft o).1.1) (b2i (ordS fd L pos fn ft o).1.2.1) (nI (ordS fd L pos fn ft o).2.2)) ∧ (ordS fd L pos fn ft o).1.1 ≤ L) := by
  refine MW.of (cc := cX7_takeOrder) (maxL := 2) (ret := none) (lv := [(0, .ref (a 0))]) (by decide +kernel) rfl (Nat.le_of_ble_eq_true rfl) rfl ?_
  intro p e s m below meth c A hAe hAg X hr hmn
  have hinX70 : ∀ w ∈ wsX70, w ∈ wsX7_takeOrder := fun w h => List.mem_cons_of_mem _ (List.mem_append_right _ h)
  have hl200 := List.mem_of_getElem? (l := wsX7_takeOrder) (i := 1) rfl
  have hl194 := List.mem_of_getElem? (l := wsX7_takeOrder) (i := 2) rfl
  have hl32 := List.mem_of_getElem? (l := wsX7_takeOrder) (i := 3) rfl
  have hl197 := List.mem_of_getElem? (l := wsX7_takeOrder) (i := 4) rfl
  refine g_aload_n X dX7_takeOrder_0 rfl 0 rfl rfl ?_
  refine g_callVRs (n := 0) (As := []) (rest := []) X (c_X7_next l D _ _ _ _ _ _ _ _ _ _ _ _ _  L pos o w hL hs ho ) gX7_takeOrder_X7_next rfl (by decide +kernel) ⟨Nat.le_of_ble_eq_true rfl, Nat.le_of_ble_eq_true rfl⟩ rfl rfl  rfl rfl (Nat.le_of_ble_eq_true rfl) dX7_takeOrder_1 ⟨Nat.le_of_ble_eq_true rfl, Nat.le_of_ble_eq_true rfl⟩ rfl (fun v hv => ?_)
  obtain rfl := hv
  refine g_st (st' := [_]) rfl ?_
  refine g_istore_n X [(1, _), (0, _)] dX7_takeOrder_4 rfl (by decide) rfl rfl ?_
  refine g_aload_n X dX7_takeOrder_5 rfl 1 rfl rfl ?_
  refine g_iload_n X dX7_takeOrder_6 rfl 0 rfl rfl ?_
  refine g_bipush (v := (111 : Int32)) X dX7_takeOrder_7 (by decide) rfl ?_
  refine g_icmp_eq X dX7_takeOrder_9 46 (by decide) rfl (fun h9 => ?_) (fun h9 => ?_)
  · refine g_iconst (v := (0 : Int32)) X dX7_takeOrder_46 (by decide) rfl ?_
    refine gM_put_isWrong X rfl dX7_takeOrder_47 hinX70 hl200 (by first | rfl | exact b2i_nar _) (by first | rfl | exact b2i_fit _) rfl ?_
    refine g_aload_n X dX7_takeOrder_50 rfl 1 rfl rfl ?_
    refine gM_get_isWrong X dX7_takeOrder_51 hinX70 hl200 rfl ?_
    refine g_if_ne X dX7_takeOrder_54 72 (by decide) rfl (fun h54 => absurd h54 (by decide)) (fun h54 => ?_)
    have hkb : kindB (nx fd L pos) = true := by simp [kindB, *]
    have hp1 : pos + 1 ≤ L := nx_lt (fun z => by rw [z] at hkb; exact absurd hkb (by decide))
    have hO : qOrd fd L o pos fn = qBehind fd L o (nx fd L pos) (pos + 1, false, fn) := if_pos hkb
    refine g_aload_n X dX7_takeOrder_57 rfl 1 rfl rfl ?_
    refine g_dup X dX7_takeOrder_58 rfl rfl ?_
    refine gM_get_spot X dX7_takeOrder_59 hinX70 hl194 rfl ?_
    refine g_iconst (v := (1 : Int32)) X dX7_takeOrder_62 (by decide) rfl ?_
    refine g_iadd X dX7_takeOrder_63 rfl ?_
    refine g_topi (y := nI (pos + 1)) (nI_add (pos) (1)) ?_
    refine gM_put_spot X rfl dX7_takeOrder_64 hinX70 hl194 rfl ?_
    refine g_aload_n X dX7_takeOrder_67 rfl 1 rfl rfl ?_
    refine g_iload_n X dX7_takeOrder_68 rfl 0 rfl rfl ?_
    refine g_callVWs (n := 1) (As := [_]) (rest := []) X hAg rfl (c_X7_takeBehind l D _ _ _ _ _ _ _ _ _ _ _ _ _  L (pos + 1) o false hL hp1 ho _) gX7_takeOrder_X7_takeBehind rfl (by decide +kernel) ⟨Nat.le_of_ble_eq_true rfl, Nat.le_of_ble_eq_true rfl⟩ rfl rfl  rfl rfl (Nat.le_of_ble_eq_true rfl) dX7_takeOrder_69 ⟨Nat.le_of_ble_eq_true rfl, Nat.le_of_ble_eq_true rfl⟩ rfl (fun v w hv => ?_)
    obtain ⟨rfl, rfl, hle⟩ := hv
    refine ⟨rfl, ?_⟩
    refine g_st (st' := []) rfl ?_
    refine g_aload_n X dX7_takeOrder_72 rfl 1 rfl rfl ?_
    refine gM_get_isWrong X dX7_takeOrder_73 hinX70 hl200 rfl ?_
    refine g_if_ne X dX7_takeOrder_76 99 (by decide) rfl (fun h76 => ?_) (fun h76 => ?_)
    · replace h76 := b2i_n0 h76
      refine g_vretW X hr dX7_takeOrder_99 hAe ?_
      first
      | (have hkb : kindB (nx fd L pos) = false := by simp [kindB, *]
         have hO : qOrd fd L o pos fn = (pos, true, fn) := if_neg (by rw [hkb]; exact Bool.false_ne_true)
         unfold ordS; rw [hO]; exact ⟨rfl, rfl, hs⟩)
      | (unfold ordS; rw [hO, if_pos h76, if_pos h76]; exact ⟨rfl, rfl, hle⟩)
      | (unfold ordS; rw [hO, if_neg (by rw [h76]; exact Bool.false_ne_true), if_neg (by rw [h76]; exact Bool.false_ne_true)]; exact ⟨rfl, rfl, hle⟩)
    · replace h76 := b2i_0 h76
      refine g_aload_n X dX7_takeOrder_79 rfl 1 rfl rfl ?_
      refine gM_get_sort X dX7_takeOrder_80 hinX70 hl32 rfl ?_
      refine g_aload_n X dX7_takeOrder_83 rfl 1 rfl rfl ?_
      refine gM_get_orders X dX7_takeOrder_84 hinX70 hl197 rfl ?_
      refine g_iload_n X dX7_takeOrder_87 rfl 0 rfl rfl ?_
      refine gM_st_sort X rfl dX7_takeOrder_88 (by first | rfl | assumption) (by omega) rfl ?_
      refine g_aload_n X dX7_takeOrder_89 rfl 1 rfl rfl ?_
      refine g_dup X dX7_takeOrder_90 rfl rfl ?_
      refine gM_get_orders X dX7_takeOrder_91 hinX70 hl197 rfl ?_
      refine g_iconst (v := (1 : Int32)) X dX7_takeOrder_94 (by decide) rfl ?_
      refine g_iadd X dX7_takeOrder_95 rfl ?_
      refine g_topi (y := nI (o + 1)) (nI_add (o) (1)) ?_
      refine gM_put_orders X rfl dX7_takeOrder_96 hinX70 hl197 rfl ?_
      refine g_vretW X hr dX7_takeOrder_99 hAe ?_
      first
      | (have hkb : kindB (nx fd L pos) = false := by simp [kindB, *]
         have hO : qOrd fd L o pos fn = (pos, true, fn) := if_neg (by rw [hkb]; exact Bool.false_ne_true)
         unfold ordS; rw [hO]; exact ⟨rfl, rfl, hs⟩)
      | (unfold ordS; rw [hO, if_pos h76, if_pos h76]; exact ⟨rfl, rfl, hle⟩)
      | (unfold ordS; rw [hO, if_neg (by rw [h76]; exact Bool.false_ne_true), if_neg (by rw [h76]; exact Bool.false_ne_true)]; exact ⟨rfl, rfl, hle⟩)
  · refine g_iload_n X dX7_takeOrder_12 rfl 0 rfl rfl ?_
    refine g_bipush (v := (115 : Int32)) X dX7_takeOrder_13 (by decide) rfl ?_
    refine g_icmp_eq X dX7_takeOrder_15 46 (by decide) rfl (fun h15 => ?_) (fun h15 => ?_)
    · refine g_iconst (v := (0 : Int32)) X dX7_takeOrder_46 (by decide) rfl ?_
      refine gM_put_isWrong X rfl dX7_takeOrder_47 hinX70 hl200 (by first | rfl | exact b2i_nar _) (by first | rfl | exact b2i_fit _) rfl ?_
      refine g_aload_n X dX7_takeOrder_50 rfl 1 rfl rfl ?_
      refine gM_get_isWrong X dX7_takeOrder_51 hinX70 hl200 rfl ?_
      refine g_if_ne X dX7_takeOrder_54 72 (by decide) rfl (fun h54 => absurd h54 (by decide)) (fun h54 => ?_)
      have hkb : kindB (nx fd L pos) = true := by simp [kindB, *]
      have hp1 : pos + 1 ≤ L := nx_lt (fun z => by rw [z] at hkb; exact absurd hkb (by decide))
      have hO : qOrd fd L o pos fn = qBehind fd L o (nx fd L pos) (pos + 1, false, fn) := if_pos hkb
      refine g_aload_n X dX7_takeOrder_57 rfl 1 rfl rfl ?_
      refine g_dup X dX7_takeOrder_58 rfl rfl ?_
      refine gM_get_spot X dX7_takeOrder_59 hinX70 hl194 rfl ?_
      refine g_iconst (v := (1 : Int32)) X dX7_takeOrder_62 (by decide) rfl ?_
      refine g_iadd X dX7_takeOrder_63 rfl ?_
      refine g_topi (y := nI (pos + 1)) (nI_add (pos) (1)) ?_
      refine gM_put_spot X rfl dX7_takeOrder_64 hinX70 hl194 rfl ?_
      refine g_aload_n X dX7_takeOrder_67 rfl 1 rfl rfl ?_
      refine g_iload_n X dX7_takeOrder_68 rfl 0 rfl rfl ?_
      refine g_callVWs (n := 1) (As := [_]) (rest := []) X hAg rfl (c_X7_takeBehind l D _ _ _ _ _ _ _ _ _ _ _ _ _  L (pos + 1) o false hL hp1 ho _) gX7_takeOrder_X7_takeBehind rfl (by decide +kernel) ⟨Nat.le_of_ble_eq_true rfl, Nat.le_of_ble_eq_true rfl⟩ rfl rfl  rfl rfl (Nat.le_of_ble_eq_true rfl) dX7_takeOrder_69 ⟨Nat.le_of_ble_eq_true rfl, Nat.le_of_ble_eq_true rfl⟩ rfl (fun v w hv => ?_)
      obtain ⟨rfl, rfl, hle⟩ := hv
      refine ⟨rfl, ?_⟩
      refine g_st (st' := []) rfl ?_
      refine g_aload_n X dX7_takeOrder_72 rfl 1 rfl rfl ?_
      refine gM_get_isWrong X dX7_takeOrder_73 hinX70 hl200 rfl ?_
      refine g_if_ne X dX7_takeOrder_76 99 (by decide) rfl (fun h76 => ?_) (fun h76 => ?_)
      · replace h76 := b2i_n0 h76
        refine g_vretW X hr dX7_takeOrder_99 hAe ?_
        first
        | (have hkb : kindB (nx fd L pos) = false := by simp [kindB, *]
           have hO : qOrd fd L o pos fn = (pos, true, fn) := if_neg (by rw [hkb]; exact Bool.false_ne_true)
           unfold ordS; rw [hO]; exact ⟨rfl, rfl, hs⟩)
        | (unfold ordS; rw [hO, if_pos h76, if_pos h76]; exact ⟨rfl, rfl, hle⟩)
        | (unfold ordS; rw [hO, if_neg (by rw [h76]; exact Bool.false_ne_true), if_neg (by rw [h76]; exact Bool.false_ne_true)]; exact ⟨rfl, rfl, hle⟩)
      · replace h76 := b2i_0 h76
        refine g_aload_n X dX7_takeOrder_79 rfl 1 rfl rfl ?_
        refine gM_get_sort X dX7_takeOrder_80 hinX70 hl32 rfl ?_
        refine g_aload_n X dX7_takeOrder_83 rfl 1 rfl rfl ?_
        refine gM_get_orders X dX7_takeOrder_84 hinX70 hl197 rfl ?_
        refine g_iload_n X dX7_takeOrder_87 rfl 0 rfl rfl ?_
        refine gM_st_sort X rfl dX7_takeOrder_88 (by first | rfl | assumption) (by omega) rfl ?_
        refine g_aload_n X dX7_takeOrder_89 rfl 1 rfl rfl ?_
        refine g_dup X dX7_takeOrder_90 rfl rfl ?_
        refine gM_get_orders X dX7_takeOrder_91 hinX70 hl197 rfl ?_
        refine g_iconst (v := (1 : Int32)) X dX7_takeOrder_94 (by decide) rfl ?_
        refine g_iadd X dX7_takeOrder_95 rfl ?_
        refine g_topi (y := nI (o + 1)) (nI_add (o) (1)) ?_
        refine gM_put_orders X rfl dX7_takeOrder_96 hinX70 hl197 rfl ?_
        refine g_vretW X hr dX7_takeOrder_99 hAe ?_
        first
        | (have hkb : kindB (nx fd L pos) = false := by simp [kindB, *]
           have hO : qOrd fd L o pos fn = (pos, true, fn) := if_neg (by rw [hkb]; exact Bool.false_ne_true)
           unfold ordS; rw [hO]; exact ⟨rfl, rfl, hs⟩)
        | (unfold ordS; rw [hO, if_pos h76, if_pos h76]; exact ⟨rfl, rfl, hle⟩)
        | (unfold ordS; rw [hO, if_neg (by rw [h76]; exact Bool.false_ne_true), if_neg (by rw [h76]; exact Bool.false_ne_true)]; exact ⟨rfl, rfl, hle⟩)
    · refine g_iload_n X dX7_takeOrder_18 rfl 0 rfl rfl ?_
      refine g_bipush (v := (112 : Int32)) X dX7_takeOrder_19 (by decide) rfl ?_
      refine g_icmp_eq X dX7_takeOrder_21 46 (by decide) rfl (fun h21 => ?_) (fun h21 => ?_)
      · refine g_iconst (v := (0 : Int32)) X dX7_takeOrder_46 (by decide) rfl ?_
        refine gM_put_isWrong X rfl dX7_takeOrder_47 hinX70 hl200 (by first | rfl | exact b2i_nar _) (by first | rfl | exact b2i_fit _) rfl ?_
        refine g_aload_n X dX7_takeOrder_50 rfl 1 rfl rfl ?_
        refine gM_get_isWrong X dX7_takeOrder_51 hinX70 hl200 rfl ?_
        refine g_if_ne X dX7_takeOrder_54 72 (by decide) rfl (fun h54 => absurd h54 (by decide)) (fun h54 => ?_)
        have hkb : kindB (nx fd L pos) = true := by simp [kindB, *]
        have hp1 : pos + 1 ≤ L := nx_lt (fun z => by rw [z] at hkb; exact absurd hkb (by decide))
        have hO : qOrd fd L o pos fn = qBehind fd L o (nx fd L pos) (pos + 1, false, fn) := if_pos hkb
        refine g_aload_n X dX7_takeOrder_57 rfl 1 rfl rfl ?_
        refine g_dup X dX7_takeOrder_58 rfl rfl ?_
        refine gM_get_spot X dX7_takeOrder_59 hinX70 hl194 rfl ?_
        refine g_iconst (v := (1 : Int32)) X dX7_takeOrder_62 (by decide) rfl ?_
        refine g_iadd X dX7_takeOrder_63 rfl ?_
        refine g_topi (y := nI (pos + 1)) (nI_add (pos) (1)) ?_
        refine gM_put_spot X rfl dX7_takeOrder_64 hinX70 hl194 rfl ?_
        refine g_aload_n X dX7_takeOrder_67 rfl 1 rfl rfl ?_
        refine g_iload_n X dX7_takeOrder_68 rfl 0 rfl rfl ?_
        refine g_callVWs (n := 1) (As := [_]) (rest := []) X hAg rfl (c_X7_takeBehind l D _ _ _ _ _ _ _ _ _ _ _ _ _  L (pos + 1) o false hL hp1 ho _) gX7_takeOrder_X7_takeBehind rfl (by decide +kernel) ⟨Nat.le_of_ble_eq_true rfl, Nat.le_of_ble_eq_true rfl⟩ rfl rfl  rfl rfl (Nat.le_of_ble_eq_true rfl) dX7_takeOrder_69 ⟨Nat.le_of_ble_eq_true rfl, Nat.le_of_ble_eq_true rfl⟩ rfl (fun v w hv => ?_)
        obtain ⟨rfl, rfl, hle⟩ := hv
        refine ⟨rfl, ?_⟩
        refine g_st (st' := []) rfl ?_
        refine g_aload_n X dX7_takeOrder_72 rfl 1 rfl rfl ?_
        refine gM_get_isWrong X dX7_takeOrder_73 hinX70 hl200 rfl ?_
        refine g_if_ne X dX7_takeOrder_76 99 (by decide) rfl (fun h76 => ?_) (fun h76 => ?_)
        · replace h76 := b2i_n0 h76
          refine g_vretW X hr dX7_takeOrder_99 hAe ?_
          first
          | (have hkb : kindB (nx fd L pos) = false := by simp [kindB, *]
             have hO : qOrd fd L o pos fn = (pos, true, fn) := if_neg (by rw [hkb]; exact Bool.false_ne_true)
             unfold ordS; rw [hO]; exact ⟨rfl, rfl, hs⟩)
          | (unfold ordS; rw [hO, if_pos h76, if_pos h76]; exact ⟨rfl, rfl, hle⟩)
          | (unfold ordS; rw [hO, if_neg (by rw [h76]; exact Bool.false_ne_true), if_neg (by rw [h76]; exact Bool.false_ne_true)]; exact ⟨rfl, rfl, hle⟩)
        · replace h76 := b2i_0 h76
          refine g_aload_n X dX7_takeOrder_79 rfl 1 rfl rfl ?_
          refine gM_get_sort X dX7_takeOrder_80 hinX70 hl32 rfl ?_
          refine g_aload_n X dX7_takeOrder_83 rfl 1 rfl rfl ?_
          refine gM_get_orders X dX7_takeOrder_84 hinX70 hl197 rfl ?_
          refine g_iload_n X dX7_takeOrder_87 rfl 0 rfl rfl ?_
          refine gM_st_sort X rfl dX7_takeOrder_88 (by first | rfl | assumption) (by omega) rfl ?_
          refine g_aload_n X dX7_takeOrder_89 rfl 1 rfl rfl ?_
          refine g_dup X dX7_takeOrder_90 rfl rfl ?_
          refine gM_get_orders X dX7_takeOrder_91 hinX70 hl197 rfl ?_
          refine g_iconst (v := (1 : Int32)) X dX7_takeOrder_94 (by decide) rfl ?_
          refine g_iadd X dX7_takeOrder_95 rfl ?_
          refine g_topi (y := nI (o + 1)) (nI_add (o) (1)) ?_
          refine gM_put_orders X rfl dX7_takeOrder_96 hinX70 hl197 rfl ?_
          refine g_vretW X hr dX7_takeOrder_99 hAe ?_
          first
          | (have hkb : kindB (nx fd L pos) = false := by simp [kindB, *]
             have hO : qOrd fd L o pos fn = (pos, true, fn) := if_neg (by rw [hkb]; exact Bool.false_ne_true)
             unfold ordS; rw [hO]; exact ⟨rfl, rfl, hs⟩)
          | (unfold ordS; rw [hO, if_pos h76, if_pos h76]; exact ⟨rfl, rfl, hle⟩)
          | (unfold ordS; rw [hO, if_neg (by rw [h76]; exact Bool.false_ne_true), if_neg (by rw [h76]; exact Bool.false_ne_true)]; exact ⟨rfl, rfl, hle⟩)
      · refine g_iload_n X dX7_takeOrder_24 rfl 0 rfl rfl ?_
        refine g_bipush (v := (116 : Int32)) X dX7_takeOrder_25 (by decide) rfl ?_
        refine g_icmp_eq X dX7_takeOrder_27 46 (by decide) rfl (fun h27 => ?_) (fun h27 => ?_)
        · refine g_iconst (v := (0 : Int32)) X dX7_takeOrder_46 (by decide) rfl ?_
          refine gM_put_isWrong X rfl dX7_takeOrder_47 hinX70 hl200 (by first | rfl | exact b2i_nar _) (by first | rfl | exact b2i_fit _) rfl ?_
          refine g_aload_n X dX7_takeOrder_50 rfl 1 rfl rfl ?_
          refine gM_get_isWrong X dX7_takeOrder_51 hinX70 hl200 rfl ?_
          refine g_if_ne X dX7_takeOrder_54 72 (by decide) rfl (fun h54 => absurd h54 (by decide)) (fun h54 => ?_)
          have hkb : kindB (nx fd L pos) = true := by simp [kindB, *]
          have hp1 : pos + 1 ≤ L := nx_lt (fun z => by rw [z] at hkb; exact absurd hkb (by decide))
          have hO : qOrd fd L o pos fn = qBehind fd L o (nx fd L pos) (pos + 1, false, fn) := if_pos hkb
          refine g_aload_n X dX7_takeOrder_57 rfl 1 rfl rfl ?_
          refine g_dup X dX7_takeOrder_58 rfl rfl ?_
          refine gM_get_spot X dX7_takeOrder_59 hinX70 hl194 rfl ?_
          refine g_iconst (v := (1 : Int32)) X dX7_takeOrder_62 (by decide) rfl ?_
          refine g_iadd X dX7_takeOrder_63 rfl ?_
          refine g_topi (y := nI (pos + 1)) (nI_add (pos) (1)) ?_
          refine gM_put_spot X rfl dX7_takeOrder_64 hinX70 hl194 rfl ?_
          refine g_aload_n X dX7_takeOrder_67 rfl 1 rfl rfl ?_
          refine g_iload_n X dX7_takeOrder_68 rfl 0 rfl rfl ?_
          refine g_callVWs (n := 1) (As := [_]) (rest := []) X hAg rfl (c_X7_takeBehind l D _ _ _ _ _ _ _ _ _ _ _ _ _  L (pos + 1) o false hL hp1 ho _) gX7_takeOrder_X7_takeBehind rfl (by decide +kernel) ⟨Nat.le_of_ble_eq_true rfl, Nat.le_of_ble_eq_true rfl⟩ rfl rfl  rfl rfl (Nat.le_of_ble_eq_true rfl) dX7_takeOrder_69 ⟨Nat.le_of_ble_eq_true rfl, Nat.le_of_ble_eq_true rfl⟩ rfl (fun v w hv => ?_)
          obtain ⟨rfl, rfl, hle⟩ := hv
          refine ⟨rfl, ?_⟩
          refine g_st (st' := []) rfl ?_
          refine g_aload_n X dX7_takeOrder_72 rfl 1 rfl rfl ?_
          refine gM_get_isWrong X dX7_takeOrder_73 hinX70 hl200 rfl ?_
          refine g_if_ne X dX7_takeOrder_76 99 (by decide) rfl (fun h76 => ?_) (fun h76 => ?_)
          · replace h76 := b2i_n0 h76
            refine g_vretW X hr dX7_takeOrder_99 hAe ?_
            first
            | (have hkb : kindB (nx fd L pos) = false := by simp [kindB, *]
               have hO : qOrd fd L o pos fn = (pos, true, fn) := if_neg (by rw [hkb]; exact Bool.false_ne_true)
               unfold ordS; rw [hO]; exact ⟨rfl, rfl, hs⟩)
            | (unfold ordS; rw [hO, if_pos h76, if_pos h76]; exact ⟨rfl, rfl, hle⟩)
            | (unfold ordS; rw [hO, if_neg (by rw [h76]; exact Bool.false_ne_true), if_neg (by rw [h76]; exact Bool.false_ne_true)]; exact ⟨rfl, rfl, hle⟩)
          · replace h76 := b2i_0 h76
            refine g_aload_n X dX7_takeOrder_79 rfl 1 rfl rfl ?_
            refine gM_get_sort X dX7_takeOrder_80 hinX70 hl32 rfl ?_
            refine g_aload_n X dX7_takeOrder_83 rfl 1 rfl rfl ?_
            refine gM_get_orders X dX7_takeOrder_84 hinX70 hl197 rfl ?_
            refine g_iload_n X dX7_takeOrder_87 rfl 0 rfl rfl ?_
            refine gM_st_sort X rfl dX7_takeOrder_88 (by first | rfl | assumption) (by omega) rfl ?_
            refine g_aload_n X dX7_takeOrder_89 rfl 1 rfl rfl ?_
            refine g_dup X dX7_takeOrder_90 rfl rfl ?_
            refine gM_get_orders X dX7_takeOrder_91 hinX70 hl197 rfl ?_
            refine g_iconst (v := (1 : Int32)) X dX7_takeOrder_94 (by decide) rfl ?_
            refine g_iadd X dX7_takeOrder_95 rfl ?_
            refine g_topi (y := nI (o + 1)) (nI_add (o) (1)) ?_
            refine gM_put_orders X rfl dX7_takeOrder_96 hinX70 hl197 rfl ?_
            refine g_vretW X hr dX7_takeOrder_99 hAe ?_
            first
            | (have hkb : kindB (nx fd L pos) = false := by simp [kindB, *]
               have hO : qOrd fd L o pos fn = (pos, true, fn) := if_neg (by rw [hkb]; exact Bool.false_ne_true)
               unfold ordS; rw [hO]; exact ⟨rfl, rfl, hs⟩)
            | (unfold ordS; rw [hO, if_pos h76, if_pos h76]; exact ⟨rfl, rfl, hle⟩)
            | (unfold ordS; rw [hO, if_neg (by rw [h76]; exact Bool.false_ne_true), if_neg (by rw [h76]; exact Bool.false_ne_true)]; exact ⟨rfl, rfl, hle⟩)
        · refine g_iload_n X dX7_takeOrder_30 rfl 0 rfl rfl ?_
          refine g_bipush (v := (100 : Int32)) X dX7_takeOrder_31 (by decide) rfl ?_
          refine g_icmp_eq X dX7_takeOrder_33 46 (by decide) rfl (fun h33 => ?_) (fun h33 => ?_)
          · refine g_iconst (v := (0 : Int32)) X dX7_takeOrder_46 (by decide) rfl ?_
            refine gM_put_isWrong X rfl dX7_takeOrder_47 hinX70 hl200 (by first | rfl | exact b2i_nar _) (by first | rfl | exact b2i_fit _) rfl ?_
            refine g_aload_n X dX7_takeOrder_50 rfl 1 rfl rfl ?_
            refine gM_get_isWrong X dX7_takeOrder_51 hinX70 hl200 rfl ?_
            refine g_if_ne X dX7_takeOrder_54 72 (by decide) rfl (fun h54 => absurd h54 (by decide)) (fun h54 => ?_)
            have hkb : kindB (nx fd L pos) = true := by simp [kindB, *]
            have hp1 : pos + 1 ≤ L := nx_lt (fun z => by rw [z] at hkb; exact absurd hkb (by decide))
            have hO : qOrd fd L o pos fn = qBehind fd L o (nx fd L pos) (pos + 1, false, fn) := if_pos hkb
            refine g_aload_n X dX7_takeOrder_57 rfl 1 rfl rfl ?_
            refine g_dup X dX7_takeOrder_58 rfl rfl ?_
            refine gM_get_spot X dX7_takeOrder_59 hinX70 hl194 rfl ?_
            refine g_iconst (v := (1 : Int32)) X dX7_takeOrder_62 (by decide) rfl ?_
            refine g_iadd X dX7_takeOrder_63 rfl ?_
            refine g_topi (y := nI (pos + 1)) (nI_add (pos) (1)) ?_
            refine gM_put_spot X rfl dX7_takeOrder_64 hinX70 hl194 rfl ?_
            refine g_aload_n X dX7_takeOrder_67 rfl 1 rfl rfl ?_
            refine g_iload_n X dX7_takeOrder_68 rfl 0 rfl rfl ?_
            refine g_callVWs (n := 1) (As := [_]) (rest := []) X hAg rfl (c_X7_takeBehind l D _ _ _ _ _ _ _ _ _ _ _ _ _  L (pos + 1) o false hL hp1 ho _) gX7_takeOrder_X7_takeBehind rfl (by decide +kernel) ⟨Nat.le_of_ble_eq_true rfl, Nat.le_of_ble_eq_true rfl⟩ rfl rfl  rfl rfl (Nat.le_of_ble_eq_true rfl) dX7_takeOrder_69 ⟨Nat.le_of_ble_eq_true rfl, Nat.le_of_ble_eq_true rfl⟩ rfl (fun v w hv => ?_)
            obtain ⟨rfl, rfl, hle⟩ := hv
            refine ⟨rfl, ?_⟩
            refine g_st (st' := []) rfl ?_
            refine g_aload_n X dX7_takeOrder_72 rfl 1 rfl rfl ?_
            refine gM_get_isWrong X dX7_takeOrder_73 hinX70 hl200 rfl ?_
            refine g_if_ne X dX7_takeOrder_76 99 (by decide) rfl (fun h76 => ?_) (fun h76 => ?_)
            · replace h76 := b2i_n0 h76
              refine g_vretW X hr dX7_takeOrder_99 hAe ?_
              first
              | (have hkb : kindB (nx fd L pos) = false := by simp [kindB, *]
                 have hO : qOrd fd L o pos fn = (pos, true, fn) := if_neg (by rw [hkb]; exact Bool.false_ne_true)
                 unfold ordS; rw [hO]; exact ⟨rfl, rfl, hs⟩)
              | (unfold ordS; rw [hO, if_pos h76, if_pos h76]; exact ⟨rfl, rfl, hle⟩)
              | (unfold ordS; rw [hO, if_neg (by rw [h76]; exact Bool.false_ne_true), if_neg (by rw [h76]; exact Bool.false_ne_true)]; exact ⟨rfl, rfl, hle⟩)
            · replace h76 := b2i_0 h76
              refine g_aload_n X dX7_takeOrder_79 rfl 1 rfl rfl ?_
              refine gM_get_sort X dX7_takeOrder_80 hinX70 hl32 rfl ?_
              refine g_aload_n X dX7_takeOrder_83 rfl 1 rfl rfl ?_
              refine gM_get_orders X dX7_takeOrder_84 hinX70 hl197 rfl ?_
              refine g_iload_n X dX7_takeOrder_87 rfl 0 rfl rfl ?_
              refine gM_st_sort X rfl dX7_takeOrder_88 (by first | rfl | assumption) (by omega) rfl ?_
              refine g_aload_n X dX7_takeOrder_89 rfl 1 rfl rfl ?_
              refine g_dup X dX7_takeOrder_90 rfl rfl ?_
              refine gM_get_orders X dX7_takeOrder_91 hinX70 hl197 rfl ?_
              refine g_iconst (v := (1 : Int32)) X dX7_takeOrder_94 (by decide) rfl ?_
              refine g_iadd X dX7_takeOrder_95 rfl ?_
              refine g_topi (y := nI (o + 1)) (nI_add (o) (1)) ?_
              refine gM_put_orders X rfl dX7_takeOrder_96 hinX70 hl197 rfl ?_
              refine g_vretW X hr dX7_takeOrder_99 hAe ?_
              first
              | (have hkb : kindB (nx fd L pos) = false := by simp [kindB, *]
                 have hO : qOrd fd L o pos fn = (pos, true, fn) := if_neg (by rw [hkb]; exact Bool.false_ne_true)
                 unfold ordS; rw [hO]; exact ⟨rfl, rfl, hs⟩)
              | (unfold ordS; rw [hO, if_pos h76, if_pos h76]; exact ⟨rfl, rfl, hle⟩)
              | (unfold ordS; rw [hO, if_neg (by rw [h76]; exact Bool.false_ne_true), if_neg (by rw [h76]; exact Bool.false_ne_true)]; exact ⟨rfl, rfl, hle⟩)
          · refine g_iload_n X dX7_takeOrder_36 rfl 0 rfl rfl ?_
            refine g_bipush (v := (63 : Int32)) X dX7_takeOrder_37 (by decide) rfl ?_
            refine g_icmp_eq X dX7_takeOrder_39 46 (by decide) rfl (fun h39 => ?_) (fun h39 => ?_)
            · refine g_iconst (v := (0 : Int32)) X dX7_takeOrder_46 (by decide) rfl ?_
              refine gM_put_isWrong X rfl dX7_takeOrder_47 hinX70 hl200 (by first | rfl | exact b2i_nar _) (by first | rfl | exact b2i_fit _) rfl ?_
              refine g_aload_n X dX7_takeOrder_50 rfl 1 rfl rfl ?_
              refine gM_get_isWrong X dX7_takeOrder_51 hinX70 hl200 rfl ?_
              refine g_if_ne X dX7_takeOrder_54 72 (by decide) rfl (fun h54 => absurd h54 (by decide)) (fun h54 => ?_)
              have hkb : kindB (nx fd L pos) = true := by simp [kindB, *]
              have hp1 : pos + 1 ≤ L := nx_lt (fun z => by rw [z] at hkb; exact absurd hkb (by decide))
              have hO : qOrd fd L o pos fn = qBehind fd L o (nx fd L pos) (pos + 1, false, fn) := if_pos hkb
              refine g_aload_n X dX7_takeOrder_57 rfl 1 rfl rfl ?_
              refine g_dup X dX7_takeOrder_58 rfl rfl ?_
              refine gM_get_spot X dX7_takeOrder_59 hinX70 hl194 rfl ?_
              refine g_iconst (v := (1 : Int32)) X dX7_takeOrder_62 (by decide) rfl ?_
              refine g_iadd X dX7_takeOrder_63 rfl ?_
              refine g_topi (y := nI (pos + 1)) (nI_add (pos) (1)) ?_
              refine gM_put_spot X rfl dX7_takeOrder_64 hinX70 hl194 rfl ?_
              refine g_aload_n X dX7_takeOrder_67 rfl 1 rfl rfl ?_
              refine g_iload_n X dX7_takeOrder_68 rfl 0 rfl rfl ?_
              refine g_callVWs (n := 1) (As := [_]) (rest := []) X hAg rfl (c_X7_takeBehind l D _ _ _ _ _ _ _ _ _ _ _ _ _  L (pos + 1) o false hL hp1 ho _) gX7_takeOrder_X7_takeBehind rfl (by decide +kernel) ⟨Nat.le_of_ble_eq_true rfl, Nat.le_of_ble_eq_true rfl⟩ rfl rfl  rfl rfl (Nat.le_of_ble_eq_true rfl) dX7_takeOrder_69 ⟨Nat.le_of_ble_eq_true rfl, Nat.le_of_ble_eq_true rfl⟩ rfl (fun v w hv => ?_)
              obtain ⟨rfl, rfl, hle⟩ := hv
              refine ⟨rfl, ?_⟩
              refine g_st (st' := []) rfl ?_
              refine g_aload_n X dX7_takeOrder_72 rfl 1 rfl rfl ?_
              refine gM_get_isWrong X dX7_takeOrder_73 hinX70 hl200 rfl ?_
              refine g_if_ne X dX7_takeOrder_76 99 (by decide) rfl (fun h76 => ?_) (fun h76 => ?_)
              · replace h76 := b2i_n0 h76
                refine g_vretW X hr dX7_takeOrder_99 hAe ?_
                first
                | (have hkb : kindB (nx fd L pos) = false := by simp [kindB, *]
                   have hO : qOrd fd L o pos fn = (pos, true, fn) := if_neg (by rw [hkb]; exact Bool.false_ne_true)
                   unfold ordS; rw [hO]; exact ⟨rfl, rfl, hs⟩)
                | (unfold ordS; rw [hO, if_pos h76, if_pos h76]; exact ⟨rfl, rfl, hle⟩)
                | (unfold ordS; rw [hO, if_neg (by rw [h76]; exact Bool.false_ne_true), if_neg (by rw [h76]; exact Bool.false_ne_true)]; exact ⟨rfl, rfl, hle⟩)
              · replace h76 := b2i_0 h76
                refine g_aload_n X dX7_takeOrder_79 rfl 1 rfl rfl ?_
                refine gM_get_sort X dX7_takeOrder_80 hinX70 hl32 rfl ?_
                refine g_aload_n X dX7_takeOrder_83 rfl 1 rfl rfl ?_
                refine gM_get_orders X dX7_takeOrder_84 hinX70 hl197 rfl ?_
                refine g_iload_n X dX7_takeOrder_87 rfl 0 rfl rfl ?_
                refine gM_st_sort X rfl dX7_takeOrder_88 (by first | rfl | assumption) (by omega) rfl ?_
                refine g_aload_n X dX7_takeOrder_89 rfl 1 rfl rfl ?_
                refine g_dup X dX7_takeOrder_90 rfl rfl ?_
                refine gM_get_orders X dX7_takeOrder_91 hinX70 hl197 rfl ?_
                refine g_iconst (v := (1 : Int32)) X dX7_takeOrder_94 (by decide) rfl ?_
                refine g_iadd X dX7_takeOrder_95 rfl ?_
                refine g_topi (y := nI (o + 1)) (nI_add (o) (1)) ?_
                refine gM_put_orders X rfl dX7_takeOrder_96 hinX70 hl197 rfl ?_
                refine g_vretW X hr dX7_takeOrder_99 hAe ?_
                first
                | (have hkb : kindB (nx fd L pos) = false := by simp [kindB, *]
                   have hO : qOrd fd L o pos fn = (pos, true, fn) := if_neg (by rw [hkb]; exact Bool.false_ne_true)
                   unfold ordS; rw [hO]; exact ⟨rfl, rfl, hs⟩)
                | (unfold ordS; rw [hO, if_pos h76, if_pos h76]; exact ⟨rfl, rfl, hle⟩)
                | (unfold ordS; rw [hO, if_neg (by rw [h76]; exact Bool.false_ne_true), if_neg (by rw [h76]; exact Bool.false_ne_true)]; exact ⟨rfl, rfl, hle⟩)
            · refine g_iconst (v := (1 : Int32)) X dX7_takeOrder_42 (by decide) rfl ?_
              refine g_goto X dX7_takeOrder_43 47 (by decide) ?_
              refine gM_put_isWrong X rfl dX7_takeOrder_47 hinX70 hl200 (by first | rfl | exact b2i_nar _) (by first | rfl | exact b2i_fit _) rfl ?_
              refine g_aload_n X dX7_takeOrder_50 rfl 1 rfl rfl ?_
              refine gM_get_isWrong X dX7_takeOrder_51 hinX70 hl200 rfl ?_
              refine g_if_ne X dX7_takeOrder_54 72 (by decide) rfl (fun h54 => ?_) (fun h54 => absurd h54 (by decide))
              refine g_aload_n X dX7_takeOrder_72 rfl 1 rfl rfl ?_
              refine gM_get_isWrong X dX7_takeOrder_73 hinX70 hl200 rfl ?_
              refine g_if_ne X dX7_takeOrder_76 99 (by decide) rfl (fun h76 => ?_) (fun h76 => absurd h76 (by decide))
              refine g_vretW X hr dX7_takeOrder_99 hAe ?_
              first
              | (have hkb : kindB (nx fd L pos) = false := by simp [kindB, *]
                 have hO : qOrd fd L o pos fn = (pos, true, fn) := if_neg (by rw [hkb]; exact Bool.false_ne_true)
                 unfold ordS; rw [hO]; exact ⟨rfl, rfl, hs⟩)
              | (unfold ordS; rw [hO, if_pos h76, if_pos h76]; exact ⟨rfl, rfl, hle⟩)
              | (unfold ordS; rw [hO, if_neg (by rw [h76]; exact Bool.false_ne_true), if_neg (by rw [h76]; exact Bool.false_ne_true)]; exact ⟨rfl, rfl, hle⟩)
