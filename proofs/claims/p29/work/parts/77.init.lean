set_option maxHeartbeats 4000000 in
set_option maxRecDepth 100000 in
theorem c_X0_init (l : Launch) (D : DT) (x : Nat) : MW l yX0_init wsX0_init 1 30 4 32 D [.ref x] [(x, .inr (0, [.null, .null, .null, .null, .int 0, .int 0, .int 0]))] (fun v w => v = none ∧ ∃ q1 q2 q3 q4 : Nat, w = [(x, .inr (0, [.ref q1, .ref q2, .ref q3, .ref q4, .int 0, .int 0, .int 0]))] ++ [(q1, .inl (D.2.1, 8, .inl (fun _ => 0))), (q2, .inl (D.2.1, 8, .inl (fun _ => 0))), (q3, .inl (D.2.1, 8, .inl (fun _ => 0))), (q4, .inl (D.2.1, 8, .inl (fun _ => 0)))]) := by
  refine MW.of (cc := cX0_init) (maxL := 1) (ret := none) (lv := [(0, .ref x)]) (by decide +kernel) rfl (Nat.le_of_ble_eq_true rfl) rfl ?_
  intro p e s m below meth c A hAe hAg X hr hmn
  have hinX00 : ∀ w ∈ wsX00, w ∈ wsX0_init := fun w h => List.mem_cons_of_mem _ (List.mem_append_right _ h)
  have hl9 := List.mem_of_getElem? (l := wsX0_init) (i := 5) rfl
  have hl15 := List.mem_of_getElem? (l := wsX0_init) (i := 6) rfl
  have hl18 := List.mem_of_getElem? (l := wsX0_init) (i := 7) rfl
  have hl21 := List.mem_of_getElem? (l := wsX0_init) (i := 8) rfl
  refine g_aload_n X dX0_init_0 rfl 0 rfl rfl ?_
  refine g_objInit X dX0_init_1 (List.mem_of_getElem? (l := wsX0_init) (i := 1) rfl) (List.mem_of_getElem? (l := wsX0_init) (i := 2) rfl) (List.mem_of_getElem? (l := wsX0_init) (i := 3) rfl) ⟨Nat.le_of_ble_eq_true rfl, Nat.le_of_ble_eq_true rfl⟩ (Nat.le_of_ble_eq_true rfl) rfl ?_
  refine g_aload_n X dX0_init_4 rfl 0 rfl rfl ?_
  refine g_bipush (v := (8 : Int32)) X dX0_init_5 (by decide) rfl ?_
  refine g_newa_int (N := 8) X hAg rfl dX0_init_7 (List.mem_of_getElem? (l := wsX0_init) (i := 4) rfl) rfl (Nat.le_of_ble_eq_true rfl) ⟨Nat.le_of_ble_eq_true rfl, Nat.le_of_ble_eq_true rfl⟩ rfl (fun q1 => ?_)
  refine g_ws (ws' := [(x, .inr (0, [.null, .null, .null, .null, .int 0, .int 0, .int 0])), (q1, .inl (D.2.1, 8, .inl (fun _ => 0)))]) rfl ?_
  refine g_putF X [(x, .inr (0, [.ref q1, .null, .null, .null, .int 0, .int 0, .int 0])), (q1, .inl (D.2.1, 8, .inl (fun _ => 0)))] rfl dX0_init_9 hinX00 tyX0_ok nmX0 rfl 0 rfl 0 (by decide) hl9 rfl hmn rfl (ty := tyX0 0) (by decide +kernel) rfl rfl (Nat.le_of_ble_eq_true rfl) rfl rfl ?_
  refine g_aload_n X dX0_init_12 rfl 0 rfl rfl ?_
  refine g_bipush (v := (8 : Int32)) X dX0_init_13 (by decide) rfl ?_
  refine g_newa_int (N := 8) X hAg rfl dX0_init_15 (List.mem_of_getElem? (l := wsX0_init) (i := 4) rfl) rfl (Nat.le_of_ble_eq_true rfl) ⟨Nat.le_of_ble_eq_true rfl, Nat.le_of_ble_eq_true rfl⟩ rfl (fun q2 => ?_)
  refine g_ws (ws' := [(x, .inr (0, [.ref q1, .null, .null, .null, .int 0, .int 0, .int 0])), (q1, .inl (D.2.1, 8, .inl (fun _ => 0))), (q2, .inl (D.2.1, 8, .inl (fun _ => 0)))]) rfl ?_
  refine g_putF X [(x, .inr (0, [.ref q1, .ref q2, .null, .null, .int 0, .int 0, .int 0])), (q1, .inl (D.2.1, 8, .inl (fun _ => 0))), (q2, .inl (D.2.1, 8, .inl (fun _ => 0)))] rfl dX0_init_17 hinX00 tyX0_ok nmX0 rfl 0 rfl 1 (by decide) hl15 rfl hmn rfl (ty := tyX0 1) (by decide +kernel) rfl rfl (Nat.le_of_ble_eq_true rfl) rfl rfl ?_
  refine g_aload_n X dX0_init_20 rfl 0 rfl rfl ?_
  refine g_bipush (v := (8 : Int32)) X dX0_init_21 (by decide) rfl ?_
  refine g_newa_int (N := 8) X hAg rfl dX0_init_23 (List.mem_of_getElem? (l := wsX0_init) (i := 4) rfl) rfl (Nat.le_of_ble_eq_true rfl) ⟨Nat.le_of_ble_eq_true rfl, Nat.le_of_ble_eq_true rfl⟩ rfl (fun q3 => ?_)
  refine g_ws (ws' := [(x, .inr (0, [.ref q1, .ref q2, .null, .null, .int 0, .int 0, .int 0])), (q1, .inl (D.2.1, 8, .inl (fun _ => 0))), (q2, .inl (D.2.1, 8, .inl (fun _ => 0))), (q3, .inl (D.2.1, 8, .inl (fun _ => 0)))]) rfl ?_
  refine g_putF X [(x, .inr (0, [.ref q1, .ref q2, .ref q3, .null, .int 0, .int 0, .int 0])), (q1, .inl (D.2.1, 8, .inl (fun _ => 0))), (q2, .inl (D.2.1, 8, .inl (fun _ => 0))), (q3, .inl (D.2.1, 8, .inl (fun _ => 0)))] rfl dX0_init_25 hinX00 tyX0_ok nmX0 rfl 0 rfl 2 (by decide) hl18 rfl hmn rfl (ty := tyX0 2) (by decide +kernel) rfl rfl (Nat.le_of_ble_eq_true rfl) rfl rfl ?_
  refine g_aload_n X dX0_init_28 rfl 0 rfl rfl ?_
  refine g_bipush (v := (8 : Int32)) X dX0_init_29 (by decide) rfl ?_
  refine g_newa_int (N := 8) X hAg rfl dX0_init_31 (List.mem_of_getElem? (l := wsX0_init) (i := 4) rfl) rfl (Nat.le_of_ble_eq_true rfl) ⟨Nat.le_of_ble_eq_true rfl, Nat.le_of_ble_eq_true rfl⟩ rfl (fun q4 => ?_)
  refine g_ws (ws' := [(x, .inr (0, [.ref q1, .ref q2, .ref q3, .null, .int 0, .int 0, .int 0])), (q1, .inl (D.2.1, 8, .inl (fun _ => 0))), (q2, .inl (D.2.1, 8, .inl (fun _ => 0))), (q3, .inl (D.2.1, 8, .inl (fun _ => 0))), (q4, .inl (D.2.1, 8, .inl (fun _ => 0)))]) rfl ?_
  refine g_putF X [(x, .inr (0, [.ref q1, .ref q2, .ref q3, .ref q4, .int 0, .int 0, .int 0])), (q1, .inl (D.2.1, 8, .inl (fun _ => 0))), (q2, .inl (D.2.1, 8, .inl (fun _ => 0))), (q3, .inl (D.2.1, 8, .inl (fun _ => 0))), (q4, .inl (D.2.1, 8, .inl (fun _ => 0)))] rfl dX0_init_33 hinX00 tyX0_ok nmX0 rfl 0 rfl 3 (by decide) hl21 rfl hmn rfl (ty := tyX0 3) (by decide +kernel) rfl rfl (Nat.le_of_ble_eq_true rfl) rfl rfl ?_
  refine g_widen 4 32 (Nat.le_of_ble_eq_true rfl) (Nat.le_of_ble_eq_true rfl) ?_
  refine g_vretW X hr dX0_init_36 hAe ?_
  exact ⟨rfl, q1, q2, q3, q4, rfl⟩

set_option maxHeartbeats 4000000 in
set_option maxRecDepth 100000 in
theorem c_X4_init (l : Launch) (D : DT) (x : Nat) : MW l yX4_init wsX4_init 1 30 5 200 D [.ref x] [(x, .inr (4, [.null, .null, .null, .null, .null, .long 0, .long 0, .int 0]))] (fun v w => v = none ∧ ∃ q1 q2 q3 q4 q5 : Nat, w = [(x, .inr (4, [.ref q1, .ref q2, .ref q3, .ref q4, .ref q5, .long 0, .long 0, .int 0]))] ++ [(q1, .inl (D.2.1, 40, .inl (fun _ => 0))), (q2, .inl (D.2.1, 40, .inl (fun _ => 0))), (q3, .inl (D.2.1, 40, .inl (fun _ => 0))), (q4, .inl (D.2.1, 40, .inl (fun _ => 0))), (q5, .inl (D.2.1, 40, .inl (fun _ => 0)))]) := by
  refine MW.of (cc := cX4_init) (maxL := 1) (ret := none) (lv := [(0, .ref x)]) (by decide +kernel) rfl (Nat.le_of_ble_eq_true rfl) rfl ?_
  intro p e s m below meth c A hAe hAg X hr hmn
  have hinX40 : ∀ w ∈ wsX40, w ∈ wsX4_init := fun w h => List.mem_cons_of_mem _ (List.mem_append_right _ h)
  have hl9 := List.mem_of_getElem? (l := wsX4_init) (i := 5) rfl
  have hl15 := List.mem_of_getElem? (l := wsX4_init) (i := 6) rfl
  have hl18 := List.mem_of_getElem? (l := wsX4_init) (i := 7) rfl
  have hl21 := List.mem_of_getElem? (l := wsX4_init) (i := 8) rfl
  have hl24 := List.mem_of_getElem? (l := wsX4_init) (i := 9) rfl
  refine g_aload_n X dX4_init_0 rfl 0 rfl rfl ?_
  refine g_objInit X dX4_init_1 (List.mem_of_getElem? (l := wsX4_init) (i := 1) rfl) (List.mem_of_getElem? (l := wsX4_init) (i := 2) rfl) (List.mem_of_getElem? (l := wsX4_init) (i := 3) rfl) ⟨Nat.le_of_ble_eq_true rfl, Nat.le_of_ble_eq_true rfl⟩ (Nat.le_of_ble_eq_true rfl) rfl ?_
  refine g_aload_n X dX4_init_4 rfl 0 rfl rfl ?_
  refine g_bipush (v := (40 : Int32)) X dX4_init_5 (by decide) rfl ?_
  refine g_newa_int (N := 40) X hAg rfl dX4_init_7 (List.mem_of_getElem? (l := wsX4_init) (i := 4) rfl) rfl (Nat.le_of_ble_eq_true rfl) ⟨Nat.le_of_ble_eq_true rfl, Nat.le_of_ble_eq_true rfl⟩ rfl (fun q1 => ?_)
  refine g_ws (ws' := [(x, .inr (4, [.null, .null, .null, .null, .null, .long 0, .long 0, .int 0])), (q1, .inl (D.2.1, 40, .inl (fun _ => 0)))]) rfl ?_
  refine g_putF X [(x, .inr (4, [.ref q1, .null, .null, .null, .null, .long 0, .long 0, .int 0])), (q1, .inl (D.2.1, 40, .inl (fun _ => 0)))] rfl dX4_init_9 hinX40 tyX4_ok nmX4 rfl 0 rfl 0 (by decide) hl9 rfl hmn rfl (ty := tyX4 0) (by decide +kernel) rfl rfl (Nat.le_of_ble_eq_true rfl) rfl rfl ?_
  refine g_aload_n X dX4_init_12 rfl 0 rfl rfl ?_
  refine g_bipush (v := (40 : Int32)) X dX4_init_13 (by decide) rfl ?_
  refine g_newa_int (N := 40) X hAg rfl dX4_init_15 (List.mem_of_getElem? (l := wsX4_init) (i := 4) rfl) rfl (Nat.le_of_ble_eq_true rfl) ⟨Nat.le_of_ble_eq_true rfl, Nat.le_of_ble_eq_true rfl⟩ rfl (fun q2 => ?_)
  refine g_ws (ws' := [(x, .inr (4, [.ref q1, .null, .null, .null, .null, .long 0, .long 0, .int 0])), (q1, .inl (D.2.1, 40, .inl (fun _ => 0))), (q2, .inl (D.2.1, 40, .inl (fun _ => 0)))]) rfl ?_
  refine g_putF X [(x, .inr (4, [.ref q1, .ref q2, .null, .null, .null, .long 0, .long 0, .int 0])), (q1, .inl (D.2.1, 40, .inl (fun _ => 0))), (q2, .inl (D.2.1, 40, .inl (fun _ => 0)))] rfl dX4_init_17 hinX40 tyX4_ok nmX4 rfl 0 rfl 1 (by decide) hl15 rfl hmn rfl (ty := tyX4 1) (by decide +kernel) rfl rfl (Nat.le_of_ble_eq_true rfl) rfl rfl ?_
  refine g_aload_n X dX4_init_20 rfl 0 rfl rfl ?_
  refine g_bipush (v := (40 : Int32)) X dX4_init_21 (by decide) rfl ?_
  refine g_newa_int (N := 40) X hAg rfl dX4_init_23 (List.mem_of_getElem? (l := wsX4_init) (i := 4) rfl) rfl (Nat.le_of_ble_eq_true rfl) ⟨Nat.le_of_ble_eq_true rfl, Nat.le_of_ble_eq_true rfl⟩ rfl (fun q3 => ?_)
  refine g_ws (ws' := [(x, .inr (4, [.ref q1, .ref q2, .null, .null, .null, .long 0, .long 0, .int 0])), (q1, .inl (D.2.1, 40, .inl (fun _ => 0))), (q2, .inl (D.2.1, 40, .inl (fun _ => 0))), (q3, .inl (D.2.1, 40, .inl (fun _ => 0)))]) rfl ?_
  refine g_putF X [(x, .inr (4, [.ref q1, .ref q2, .ref q3, .null, .null, .long 0, .long 0, .int 0])), (q1, .inl (D.2.1, 40, .inl (fun _ => 0))), (q2, .inl (D.2.1, 40, .inl (fun _ => 0))), (q3, .inl (D.2.1, 40, .inl (fun _ => 0)))] rfl dX4_init_25 hinX40 tyX4_ok nmX4 rfl 0 rfl 2 (by decide) hl18 rfl hmn rfl (ty := tyX4 2) (by decide +kernel) rfl rfl (Nat.le_of_ble_eq_true rfl) rfl rfl ?_
  refine g_aload_n X dX4_init_28 rfl 0 rfl rfl ?_
  refine g_bipush (v := (40 : Int32)) X dX4_init_29 (by decide) rfl ?_
  refine g_newa_int (N := 40) X hAg rfl dX4_init_31 (List.mem_of_getElem? (l := wsX4_init) (i := 4) rfl) rfl (Nat.le_of_ble_eq_true rfl) ⟨Nat.le_of_ble_eq_true rfl, Nat.le_of_ble_eq_true rfl⟩ rfl (fun q4 => ?_)
  refine g_ws (ws' := [(x, .inr (4, [.ref q1, .ref q2, .ref q3, .null, .null, .long 0, .long 0, .int 0])), (q1, .inl (D.2.1, 40, .inl (fun _ => 0))), (q2, .inl (D.2.1, 40, .inl (fun _ => 0))), (q3, .inl (D.2.1, 40, .inl (fun _ => 0))), (q4, .inl (D.2.1, 40, .inl (fun _ => 0)))]) rfl ?_
  refine g_putF X [(x, .inr (4, [.ref q1, .ref q2, .ref q3, .ref q4, .null, .long 0, .long 0, .int 0])), (q1, .inl (D.2.1, 40, .inl (fun _ => 0))), (q2, .inl (D.2.1, 40, .inl (fun _ => 0))), (q3, .inl (D.2.1, 40, .inl (fun _ => 0))), (q4, .inl (D.2.1, 40, .inl (fun _ => 0)))] rfl dX4_init_33 hinX40 tyX4_ok nmX4 rfl 0 rfl 3 (by decide) hl21 rfl hmn rfl (ty := tyX4 3) (by decide +kernel) rfl rfl (Nat.le_of_ble_eq_true rfl) rfl rfl ?_
  refine g_aload_n X dX4_init_36 rfl 0 rfl rfl ?_
  refine g_bipush (v := (40 : Int32)) X dX4_init_37 (by decide) rfl ?_
  refine g_newa_int (N := 40) X hAg rfl dX4_init_39 (List.mem_of_getElem? (l := wsX4_init) (i := 4) rfl) rfl (Nat.le_of_ble_eq_true rfl) ⟨Nat.le_of_ble_eq_true rfl, Nat.le_of_ble_eq_true rfl⟩ rfl (fun q5 => ?_)
  refine g_ws (ws' := [(x, .inr (4, [.ref q1, .ref q2, .ref q3, .ref q4, .null, .long 0, .long 0, .int 0])), (q1, .inl (D.2.1, 40, .inl (fun _ => 0))), (q2, .inl (D.2.1, 40, .inl (fun _ => 0))), (q3, .inl (D.2.1, 40, .inl (fun _ => 0))), (q4, .inl (D.2.1, 40, .inl (fun _ => 0))), (q5, .inl (D.2.1, 40, .inl (fun _ => 0)))]) rfl ?_
  refine g_putF X [(x, .inr (4, [.ref q1, .ref q2, .ref q3, .ref q4, .ref q5, .long 0, .long 0, .int 0])), (q1, .inl (D.2.1, 40, .inl (fun _ => 0))), (q2, .inl (D.2.1, 40, .inl (fun _ => 0))), (q3, .inl (D.2.1, 40, .inl (fun _ => 0))), (q4, .inl (D.2.1, 40, .inl (fun _ => 0))), (q5, .inl (D.2.1, 40, .inl (fun _ => 0)))] rfl dX4_init_41 hinX40 tyX4_ok nmX4 rfl 0 rfl 4 (by decide) hl24 rfl hmn rfl (ty := tyX4 4) (by decide +kernel) rfl rfl (Nat.le_of_ble_eq_true rfl) rfl rfl ?_
  refine g_widen 5 200 (Nat.le_of_ble_eq_true rfl) (Nat.le_of_ble_eq_true rfl) ?_
  refine g_vretW X hr dX4_init_44 hAe ?_
  exact ⟨rfl, q1, q2, q3, q4, q5, rfl⟩

set_option maxHeartbeats 4000000 in
set_option maxRecDepth 100000 in
theorem c_X5_init (l : Launch) (D : DT) (x : Nat) : MW l yX5_init wsX5_init 1 30 0 0 D [.ref x] [(x, .inr (5, [.int 0, .int 0]))] (fun v w => v = none ∧ w = [(x, .inr (5, [.int 0, .int 0]))] ++ ([] : va_W)) := by
  refine MW.of (cc := cX5_init) (maxL := 1) (ret := none) (lv := [(0, .ref x)]) (by decide +kernel) rfl (Nat.le_of_ble_eq_true rfl) rfl ?_
  intro p e s m below meth c A hAe hAg X hr hmn
  refine g_aload_n X dX5_init_0 rfl 0 rfl rfl ?_
  refine g_objInit X dX5_init_1 (List.mem_of_getElem? (l := wsX5_init) (i := 1) rfl) (List.mem_of_getElem? (l := wsX5_init) (i := 2) rfl) (List.mem_of_getElem? (l := wsX5_init) (i := 3) rfl) ⟨Nat.le_of_ble_eq_true rfl, Nat.le_of_ble_eq_true rfl⟩ (Nat.le_of_ble_eq_true rfl) rfl ?_
  refine g_vretW X hr dX5_init_4 hAe ?_
  exact ⟨rfl, rfl⟩

set_option maxHeartbeats 4000000 in
set_option maxRecDepth 100000 in
theorem c_X1_init (l : Launch) (D : DT) (x : Nat) : MW l yX1_init wsX1_init 1 30 1 7 D [.ref x] [(x, .inr (1, [.null, .int 0]))] (fun v w => v = none ∧ ∃ q1 : Nat, w = [(x, .inr (1, [.ref q1, .int 0]))] ++ [(q1, .inl (D.2.2.2.2.1, 7, .inr (.inr (.inr (.inr (fun _ => none))))))]) := by
  refine MW.of (cc := cX1_init) (maxL := 1) (ret := none) (lv := [(0, .ref x)]) (by decide +kernel) rfl (Nat.le_of_ble_eq_true rfl) rfl ?_
  intro p e s m below meth c A hAe hAg X hr hmn
  have hinX10 : ∀ w ∈ wsX10, w ∈ wsX1_init := fun w h => List.mem_cons_of_mem _ (List.mem_append_right _ h)
  have hl11 := List.mem_of_getElem? (l := wsX1_init) (i := 5) rfl
  refine g_aload_n X dX1_init_0 rfl 0 rfl rfl ?_
  refine g_objInit X dX1_init_1 (List.mem_of_getElem? (l := wsX1_init) (i := 1) rfl) (List.mem_of_getElem? (l := wsX1_init) (i := 2) rfl) (List.mem_of_getElem? (l := wsX1_init) (i := 3) rfl) ⟨Nat.le_of_ble_eq_true rfl, Nat.le_of_ble_eq_true rfl⟩ (Nat.le_of_ble_eq_true rfl) rfl ?_
  refine g_aload_n X dX1_init_4 rfl 0 rfl rfl ?_
  refine g_bipush (v := (7 : Int32)) X dX1_init_5 (by decide) rfl ?_
  refine g_newq (N := 7) X hAg rfl dX1_init_7 (List.mem_of_getElem? (l := wsX1_init) (i := 4) rfl) rfl (Nat.le_of_ble_eq_true rfl) ⟨Nat.le_of_ble_eq_true rfl, Nat.le_of_ble_eq_true rfl⟩ rfl (fun q1 => ?_)
  refine g_ws (ws' := [(x, .inr (1, [.null, .int 0])), (q1, .inl (D.2.2.2.2.1, 7, .inr (.inr (.inr (.inr (fun _ => none))))))]) rfl ?_
  refine g_putF X [(x, .inr (1, [.ref q1, .int 0])), (q1, .inl (D.2.2.2.2.1, 7, .inr (.inr (.inr (.inr (fun _ => none))))))] rfl dX1_init_10 hinX10 tyX1_ok nmX1 rfl 0 rfl 0 (by decide) hl11 rfl hmn rfl (ty := tyX1 0) (by decide +kernel) rfl rfl (Nat.le_of_ble_eq_true rfl) rfl rfl ?_
  refine g_widen 1 7 (Nat.le_of_ble_eq_true rfl) (Nat.le_of_ble_eq_true rfl) ?_
  refine g_vretW X hr dX1_init_13 hAe ?_
  exact ⟨rfl, q1, rfl⟩

set_option maxHeartbeats 4000000 in
set_option maxRecDepth 100000 in
theorem c_X3_init (l : Launch) (D : DT) (x : Nat) : MW l yX3_init wsX3_init 1 30 2 84 D [.ref x] [(x, .inr (3, [.null, .null, .int 0, .int 0, .int 0, .int 0]))] (fun v w => v = none ∧ ∃ q1 q2 : Nat, w = [(x, .inr (3, [.ref q1, .ref q2, .int 0, .int 0, .int 0, .int 0]))] ++ [(q1, .inl (D.2.2.2.1, 80, .inl (fun _ => 0))), (q2, .inl (D.2.1, 4, .inl (fun _ => 0)))]) := by
  refine MW.of (cc := cX3_init) (maxL := 1) (ret := none) (lv := [(0, .ref x)]) (by decide +kernel) rfl (Nat.le_of_ble_eq_true rfl) rfl ?_
  intro p e s m below meth c A hAe hAg X hr hmn
  have hinX30 : ∀ w ∈ wsX30, w ∈ wsX3_init := fun w h => List.mem_cons_of_mem _ (List.mem_append_right _ h)
  have hl9 := List.mem_of_getElem? (l := wsX3_init) (i := 5) rfl
  have hl15 := List.mem_of_getElem? (l := wsX3_init) (i := 7) rfl
  refine g_aload_n X dX3_init_0 rfl 0 rfl rfl ?_
  refine g_objInit X dX3_init_1 (List.mem_of_getElem? (l := wsX3_init) (i := 1) rfl) (List.mem_of_getElem? (l := wsX3_init) (i := 2) rfl) (List.mem_of_getElem? (l := wsX3_init) (i := 3) rfl) ⟨Nat.le_of_ble_eq_true rfl, Nat.le_of_ble_eq_true rfl⟩ (Nat.le_of_ble_eq_true rfl) rfl ?_
  refine g_aload_n X dX3_init_4 rfl 0 rfl rfl ?_
  refine g_bipush (v := (80 : Int32)) X dX3_init_5 (by decide) rfl ?_
  refine g_newa_char (N := 80) X hAg rfl dX3_init_7 (List.mem_of_getElem? (l := wsX3_init) (i := 4) rfl) rfl (Nat.le_of_ble_eq_true rfl) ⟨Nat.le_of_ble_eq_true rfl, Nat.le_of_ble_eq_true rfl⟩ rfl (fun q1 => ?_)
  refine g_ws (ws' := [(x, .inr (3, [.null, .null, .int 0, .int 0, .int 0, .int 0])), (q1, .inl (D.2.2.2.1, 80, .inl (fun _ => 0)))]) rfl ?_
  refine g_putF X [(x, .inr (3, [.ref q1, .null, .int 0, .int 0, .int 0, .int 0])), (q1, .inl (D.2.2.2.1, 80, .inl (fun _ => 0)))] rfl dX3_init_9 hinX30 tyX3_ok nmX3 rfl 0 rfl 0 (by decide) hl9 rfl hmn rfl (ty := tyX3 0) (by decide +kernel) rfl rfl (Nat.le_of_ble_eq_true rfl) rfl rfl ?_
  refine g_aload_n X dX3_init_12 rfl 0 rfl rfl ?_
  refine g_iconst (v := (4 : Int32)) X dX3_init_13 (by decide) rfl ?_
  refine g_newa_int (N := 4) X hAg rfl dX3_init_14 (List.mem_of_getElem? (l := wsX3_init) (i := 6) rfl) rfl (Nat.le_of_ble_eq_true rfl) ⟨Nat.le_of_ble_eq_true rfl, Nat.le_of_ble_eq_true rfl⟩ rfl (fun q2 => ?_)
  refine g_ws (ws' := [(x, .inr (3, [.ref q1, .null, .int 0, .int 0, .int 0, .int 0])), (q1, .inl (D.2.2.2.1, 80, .inl (fun _ => 0))), (q2, .inl (D.2.1, 4, .inl (fun _ => 0)))]) rfl ?_
  refine g_putF X [(x, .inr (3, [.ref q1, .ref q2, .int 0, .int 0, .int 0, .int 0])), (q1, .inl (D.2.2.2.1, 80, .inl (fun _ => 0))), (q2, .inl (D.2.1, 4, .inl (fun _ => 0)))] rfl dX3_init_16 hinX30 tyX3_ok nmX3 rfl 0 rfl 1 (by decide) hl15 rfl hmn rfl (ty := tyX3 1) (by decide +kernel) rfl rfl (Nat.le_of_ble_eq_true rfl) rfl rfl ?_
  refine g_widen 2 84 (Nat.le_of_ble_eq_true rfl) (Nat.le_of_ble_eq_true rfl) ?_
  refine g_vretW X hr dX3_init_19 hAe ?_
  exact ⟨rfl, q1, q2, rfl⟩

set_option maxHeartbeats 4000000 in
set_option maxRecDepth 100000 in
theorem c_J7_fill_53178 (l : Launch) (D : DT) (x n : Nat) (f : Nat → Int32) (v : Int32) (hn : n < 5000) : MW l yJ7_fill_53178 wsJ7_fill_53178 0 0 0 0 D [.ref x, .int v] [(x, .inl (D.2.1, n, .inl f))] (fun r w => r = none ∧ w = [(x, .inl (D.2.1, n, .inl (filI f v n)))]) := by
  have e0 : ([(x, .inl (D.2.1, n, .inl f))] : va_W) = [(x, .inl (D.2.1, n, .inl (filI f v 0)))] := by rw [filI_0]
  refine MW.of (cc := cJ7_fill_53178) (maxL := 4) (ret := none) (lv := [(0, .ref x), (1, .int v)]) (by decide +kernel) rfl (Nat.le_of_ble_eq_true rfl) rfl ?_
  intro p e s m below meth c A hAe hAg X hr hmn
  refine g_iconst (v := (0 : Int32)) X dJ7_fill_53178_0 (by decide) rfl ?_
  refine g_istore_n X [(2, _), (0, _), (1, _)] dJ7_fill_53178_1 rfl (by decide) rfl rfl ?_
  refine g_aload_n X dJ7_fill_53178_2 rfl 1 rfl rfl ?_
  refine g_alen (v := nI n) X dJ7_fill_53178_3 0 rfl 0 rfl rfl rfl ?_
  refine g_istore_n X [(3, _), (2, _), (0, _), (1, _)] dJ7_fill_53178_4 rfl (by decide) rfl rfl ?_
  have L5 : ∀ (m9 : Nat) (i : Nat) (hi : i ≤ n) (hm : n - i = m9), GG p l e (wRoom 0 0 0 0) s m ([.ref x, .int v] : List Value).toArray below meth c D A 4 false 0 0 (MQ below (wrQ D [(x, .inl (D.2.1, n, .inl f))] s.heap.size (fun r w => r = none ∧ w = [(x, .inl (D.2.1, n, .inl (filI f v n)))])) ([.ref x, .int v] : List Value).toArray s 0 0 (va_A [(x, .inl (D.2.1, n, .inl f))] s.heap.size)) [(x, .inl (D.2.1, n, .inl (filI f v i)))] 5 [(2, .int (nI i)), (0, .ref x), (1, .int v), (3, .int (nI n))] [] := by
    intro m9
    induction m9 using Nat.strongRecOn with
    | _ m9 ih =>
    intro i hi hm
    refine g_iload_n X dJ7_fill_53178_5 rfl 0 rfl rfl ?_
    refine g_iload_n X dJ7_fill_53178_6 rfl 3 rfl rfl ?_
    refine g_icmp_ge X dJ7_fill_53178_7 20 (by decide) rfl (fun h7 => ?_) (fun h7 => ?_)
    · have i7 := nj_le (a := n) (b := i) (by omega) (by omega) h7
      refine g_vretW X hr dJ7_fill_53178_20 hAe ?_
      have ei : i = n := by omega
      subst ei
      exact ⟨rfl, rfl⟩
    · have i7 := nj_nle (a := n) (b := i) (by omega) (by omega) h7
      refine g_aload_n X dJ7_fill_53178_10 rfl 1 rfl rfl ?_
      refine g_iload_n X dJ7_fill_53178_11 rfl 0 rfl rfl ?_
      refine g_iload_n X dJ7_fill_53178_12 rfl 2 rfl rfl ?_
      obtain ⟨hv1, hv2⟩ := ix_of (i := nI i) rfl i7 (by omega)
      refine g_iast X [(x, .inl (D.2.1, n, .inl (filI f v (i + 1))))] rfl dJ7_fill_53178_13 0 rfl rfl hv1 (by rw [hv2, upd_up, filI_s]; rfl) rfl ?_
      refine g_iinc (v := nI (i + 1)) X [(2, _), (0, _), (1, _), (3, _)] dJ7_fill_53178_14 0 rfl (nI_add (i) 1) (by decide) rfl rfl ?_
      refine g_goto X dJ7_fill_53178_17 5 (by decide) ?_
      exact ih (n - (i + 1)) (by omega) (i + 1) (by omega) rfl
  refine g_lv [1, 2, 3, 0] [(2, _), (0, _), (1, _), (3, _)] rfl ?_
  refine g_ws e0 ?_
  exact L5 n 0 (by omega) (by omega)

set_option maxHeartbeats 4000000 in
set_option maxRecDepth 100000 in
theorem c_X0_copyFrom (l : Launch) (D : DT) (a b : Nat → Nat) (f : Nat → Int32) (na : Nat → Nat → Int32) (r : Nat → Nat → Int32) (z : Nat → Int32) (q : Nat → Nat) : MW l yX0_copyFrom wsX0_copyFrom 1 30 0 0 D [.ref (b 13), .ref (a 13)] (wE D b r z q ++ wH D a f na) (fun v w => v = none ∧ w = wE D b (cpB na r) (up (up (up z 90 (f 90)) 81 (f 81)) 82 (f 82)) q ++ wH D a f na) := by
  refine MW.of (cc := cX0_copyFrom) (maxL := 2) (ret := none) (lv := [(0, .ref (b 13)), (1, .ref (a 13))]) (by decide +kernel) rfl (Nat.le_of_ble_eq_true rfl) rfl ?_
  intro p e s m below meth c A hAe hAg X hr hmn
  have hinX00 : ∀ w ∈ wsX00, w ∈ wsX0_copyFrom := fun w h => List.mem_cons_of_mem _ (List.mem_append_right _ h)
  have hl9 := List.mem_of_getElem? (l := wsX0_copyFrom) (i := 1) rfl
  have hl15 := List.mem_of_getElem? (l := wsX0_copyFrom) (i := 6) rfl
  have hl18 := List.mem_of_getElem? (l := wsX0_copyFrom) (i := 7) rfl
  have hl21 := List.mem_of_getElem? (l := wsX0_copyFrom) (i := 8) rfl
  have hl30 := List.mem_of_getElem? (l := wsX0_copyFrom) (i := 9) rfl
  have hl34 := List.mem_of_getElem? (l := wsX0_copyFrom) (i := 10) rfl
  have hl37 := List.mem_of_getElem? (l := wsX0_copyFrom) (i := 11) rfl
  refine g_aload_n X dX0_copyFrom_0 rfl 1 rfl rfl ?_
  refine g_get X dX0_copyFrom_1 hinX00 rfl 27 rfl 0 (by decide) hl9 rfl rfl ?_
  refine g_iconst (v := (0 : Int32)) X dX0_copyFrom_4 (by decide) rfl ?_
  refine g_aload_n X dX0_copyFrom_5 rfl 0 rfl rfl ?_
  refine g_get X dX0_copyFrom_6 hinX00 rfl 11 rfl 0 (by decide) hl9 rfl rfl ?_
  refine g_iconst (v := (0 : Int32)) X dX0_copyFrom_9 (by decide) rfl ?_
  refine g_bipush (v := (8 : Int32)) X dX0_copyFrom_10 (by decide) rfl ?_
  refine g_copyi (N := 8) X (wE D b (cpE 8 (cl 8 0 1 (na 0)) 14 (r)) (z) (q) ++ wH D a f na) rfl dX0_copyFrom_12 (List.mem_of_getElem? (l := wsX0_copyFrom) (i := 2) rfl) (List.mem_of_getElem? (l := wsX0_copyFrom) (i := 3) rfl) (List.mem_of_getElem? (l := wsX0_copyFrom) (i := 4) rfl) (List.mem_of_getElem? (l := wsX0_copyFrom) (i := 5) rfl) 28 12 rfl rfl rfl (Nat.le_of_ble_eq_true rfl) ⟨Nat.le_of_ble_eq_true rfl, Nat.le_of_ble_eq_true rfl⟩ (Nat.le_of_ble_eq_true rfl) rfl rfl ?_
  refine g_aload_n X dX0_copyFrom_15 rfl 1 rfl rfl ?_
  refine g_get X dX0_copyFrom_16 hinX00 rfl 27 rfl 1 (by decide) hl15 rfl rfl ?_
  refine g_iconst (v := (0 : Int32)) X dX0_copyFrom_19 (by decide) rfl ?_
  refine g_aload_n X dX0_copyFrom_20 rfl 0 rfl rfl ?_
  refine g_get X dX0_copyFrom_21 hinX00 rfl 11 rfl 1 (by decide) hl15 rfl rfl ?_
  refine g_iconst (v := (0 : Int32)) X dX0_copyFrom_24 (by decide) rfl ?_
  refine g_bipush (v := (8 : Int32)) X dX0_copyFrom_25 (by decide) rfl ?_
  refine g_copyi (N := 8) X (wE D b (cpE 8 (cl 8 0 1 (na 1)) 15 (cpE 8 (cl 8 0 1 (na 0)) 14 (r))) (z) (q) ++ wH D a f na) rfl dX0_copyFrom_27 (List.mem_of_getElem? (l := wsX0_copyFrom) (i := 2) rfl) (List.mem_of_getElem? (l := wsX0_copyFrom) (i := 3) rfl) (List.mem_of_getElem? (l := wsX0_copyFrom) (i := 4) rfl) (List.mem_of_getElem? (l := wsX0_copyFrom) (i := 5) rfl) 29 13 rfl rfl rfl (Nat.le_of_ble_eq_true rfl) ⟨Nat.le_of_ble_eq_true rfl, Nat.le_of_ble_eq_true rfl⟩ (Nat.le_of_ble_eq_true rfl) rfl rfl ?_
  refine g_aload_n X dX0_copyFrom_30 rfl 1 rfl rfl ?_
  refine g_get X dX0_copyFrom_31 hinX00 rfl 27 rfl 2 (by decide) hl18 rfl rfl ?_
  refine g_iconst (v := (0 : Int32)) X dX0_copyFrom_34 (by decide) rfl ?_
  refine g_aload_n X dX0_copyFrom_35 rfl 0 rfl rfl ?_
  refine g_get X dX0_copyFrom_36 hinX00 rfl 11 rfl 2 (by decide) hl18 rfl rfl ?_
  refine g_iconst (v := (0 : Int32)) X dX0_copyFrom_39 (by decide) rfl ?_
  refine g_bipush (v := (8 : Int32)) X dX0_copyFrom_40 (by decide) rfl ?_
  refine g_copyi (N := 8) X (wE D b (cpE 8 (cl 8 0 1 (na 2)) 16 (cpE 8 (cl 8 0 1 (na 1)) 15 (cpE 8 (cl 8 0 1 (na 0)) 14 (r)))) (z) (q) ++ wH D a f na) rfl dX0_copyFrom_42 (List.mem_of_getElem? (l := wsX0_copyFrom) (i := 2) rfl) (List.mem_of_getElem? (l := wsX0_copyFrom) (i := 3) rfl) (List.mem_of_getElem? (l := wsX0_copyFrom) (i := 4) rfl) (List.mem_of_getElem? (l := wsX0_copyFrom) (i := 5) rfl) 30 14 rfl rfl rfl (Nat.le_of_ble_eq_true rfl) ⟨Nat.le_of_ble_eq_true rfl, Nat.le_of_ble_eq_true rfl⟩ (Nat.le_of_ble_eq_true rfl) rfl rfl ?_
  refine g_aload_n X dX0_copyFrom_45 rfl 1 rfl rfl ?_
  refine g_get X dX0_copyFrom_46 hinX00 rfl 27 rfl 3 (by decide) hl21 rfl rfl ?_
  refine g_iconst (v := (0 : Int32)) X dX0_copyFrom_49 (by decide) rfl ?_
  refine g_aload_n X dX0_copyFrom_50 rfl 0 rfl rfl ?_
  refine g_get X dX0_copyFrom_51 hinX00 rfl 11 rfl 3 (by decide) hl21 rfl rfl ?_
  refine g_iconst (v := (0 : Int32)) X dX0_copyFrom_54 (by decide) rfl ?_
  refine g_bipush (v := (8 : Int32)) X dX0_copyFrom_55 (by decide) rfl ?_
  refine g_copyi (N := 8) X (wE D b (cpE 8 (cl 8 0 1 (na 3)) 17 (cpE 8 (cl 8 0 1 (na 2)) 16 (cpE 8 (cl 8 0 1 (na 1)) 15 (cpE 8 (cl 8 0 1 (na 0)) 14 (r))))) (z) (q) ++ wH D a f na) rfl dX0_copyFrom_57 (List.mem_of_getElem? (l := wsX0_copyFrom) (i := 2) rfl) (List.mem_of_getElem? (l := wsX0_copyFrom) (i := 3) rfl) (List.mem_of_getElem? (l := wsX0_copyFrom) (i := 4) rfl) (List.mem_of_getElem? (l := wsX0_copyFrom) (i := 5) rfl) 31 15 rfl rfl rfl (Nat.le_of_ble_eq_true rfl) ⟨Nat.le_of_ble_eq_true rfl, Nat.le_of_ble_eq_true rfl⟩ (Nat.le_of_ble_eq_true rfl) rfl rfl ?_
  refine g_aload_n X dX0_copyFrom_60 rfl 0 rfl rfl ?_
  refine g_aload_n X dX0_copyFrom_61 rfl 1 rfl rfl ?_
  refine g_get X dX0_copyFrom_62 hinX00 rfl 27 rfl 4 (by decide) hl30 rfl rfl ?_
  refine g_put X (wE D b (cpE 8 (cl 8 0 1 (na 3)) 17 (cpE 8 (cl 8 0 1 (na 2)) 16 (cpE 8 (cl 8 0 1 (na 1)) 15 (cpE 8 (cl 8 0 1 (na 0)) 14 (r))))) (up (z) 90 (f 90)) (q) ++ wH D a f na) rfl dX0_copyFrom_65 hinX00 tyX0_ok nmX0 rfl 11 rfl 4 (by decide) hl30 rfl (ty := .int) (by decide +kernel) rfl rfl (Nat.le_of_ble_eq_true rfl) rfl rfl ?_
  refine g_aload_n X dX0_copyFrom_68 rfl 0 rfl rfl ?_
  refine g_aload_n X dX0_copyFrom_69 rfl 1 rfl rfl ?_
  refine g_get X dX0_copyFrom_70 hinX00 rfl 27 rfl 5 (by decide) hl34 rfl rfl ?_
  refine g_put X (wE D b (cpE 8 (cl 8 0 1 (na 3)) 17 (cpE 8 (cl 8 0 1 (na 2)) 16 (cpE 8 (cl 8 0 1 (na 1)) 15 (cpE 8 (cl 8 0 1 (na 0)) 14 (r))))) (up (up (z) 90 (f 90)) 81 (f 81)) (q) ++ wH D a f na) rfl dX0_copyFrom_73 hinX00 tyX0_ok nmX0 rfl 11 rfl 5 (by decide) hl34 rfl (ty := .int) (by decide +kernel) rfl rfl (Nat.le_of_ble_eq_true rfl) rfl rfl ?_
  refine g_aload_n X dX0_copyFrom_76 rfl 0 rfl rfl ?_
  refine g_aload_n X dX0_copyFrom_77 rfl 1 rfl rfl ?_
  refine g_get X dX0_copyFrom_78 hinX00 rfl 27 rfl 6 (by decide) hl37 rfl rfl ?_
  refine g_put X (wE D b (cpE 8 (cl 8 0 1 (na 3)) 17 (cpE 8 (cl 8 0 1 (na 2)) 16 (cpE 8 (cl 8 0 1 (na 1)) 15 (cpE 8 (cl 8 0 1 (na 0)) 14 (r))))) (up (up (up (z) 90 (f 90)) 81 (f 81)) 82 (f 82)) (q) ++ wH D a f na) rfl dX0_copyFrom_81 hinX00 tyX0_ok nmX0 rfl 11 rfl 6 (by decide) hl37 rfl (ty := .int) (by decide +kernel) rfl rfl (Nat.le_of_ble_eq_true rfl) rfl rfl ?_
  refine g_vretW X hr dX0_copyFrom_84 hAe ?_
  exact ⟨rfl, rfl⟩

set_option maxHeartbeats 4000000 in
set_option maxRecDepth 100000 in
theorem c_X4_copyFrom (l : Launch) (D : DT) (a b : Nat → Nat) (f : Nat → Int32) (na : Nat → Nat → Int32) (r : Nat → Nat → Int32) (z : Nat → Int32) (q : Nat → Nat) (hF : FB f) : MW l yX4_copyFrom wsX4_copyFrom 1 30 0 0 D [.ref (b 5), .ref (a 5)] (wE D b r z q ++ wH D a f na) (fun v w => v = none ∧ w = wE D b (cpS f r) (up z 76 (f 76)) (up (up q 5 (mkB f 5)) 6 (mkB f 6)) ++ wH D a f na) := by
  refine MW.of (cc := cX4_copyFrom) (maxL := 2) (ret := none) (lv := [(0, .ref (b 5)), (1, .ref (a 5))]) (by decide +kernel) rfl (Nat.le_of_ble_eq_true rfl) rfl ?_
  intro p e s m below meth c A hAe hAg X hr hmn
  have hinX40 : ∀ w ∈ wsX40, w ∈ wsX4_copyFrom := fun w h => List.mem_cons_of_mem _ (List.mem_append_right _ h)
  have hl9 := List.mem_of_getElem? (l := wsX4_copyFrom) (i := 1) rfl
  have hl15 := List.mem_of_getElem? (l := wsX4_copyFrom) (i := 6) rfl
  have hl18 := List.mem_of_getElem? (l := wsX4_copyFrom) (i := 7) rfl
  have hl21 := List.mem_of_getElem? (l := wsX4_copyFrom) (i := 8) rfl
  have hl24 := List.mem_of_getElem? (l := wsX4_copyFrom) (i := 9) rfl
  have hl33 := List.mem_of_getElem? (l := wsX4_copyFrom) (i := 10) rfl
  have hl37 := List.mem_of_getElem? (l := wsX4_copyFrom) (i := 11) rfl
  have hl40 := List.mem_of_getElem? (l := wsX4_copyFrom) (i := 12) rfl
  refine g_aload_n X dX4_copyFrom_0 rfl 1 rfl rfl ?_
  refine g_get X dX4_copyFrom_1 hinX40 rfl 21 rfl 0 (by decide) hl9 rfl rfl ?_
  refine g_iconst (v := (0 : Int32)) X dX4_copyFrom_4 (by decide) rfl ?_
  refine g_aload_n X dX4_copyFrom_5 rfl 0 rfl rfl ?_
  refine g_get X dX4_copyFrom_6 hinX40 rfl 5 rfl 0 (by decide) hl9 rfl rfl ?_
  refine g_iconst (v := (0 : Int32)) X dX4_copyFrom_9 (by decide) rfl ?_
  refine g_bipush (v := (40 : Int32)) X dX4_copyFrom_10 (by decide) rfl ?_
  refine g_copyi (N := 40) X (wE D b (cpE 40 (cl 40 127 7 f) 6 (r)) (z) (q) ++ wH D a f na) rfl dX4_copyFrom_12 (List.mem_of_getElem? (l := wsX4_copyFrom) (i := 2) rfl) (List.mem_of_getElem? (l := wsX4_copyFrom) (i := 3) rfl) (List.mem_of_getElem? (l := wsX4_copyFrom) (i := 4) rfl) (List.mem_of_getElem? (l := wsX4_copyFrom) (i := 5) rfl) 22 6 rfl rfl rfl (Nat.le_of_ble_eq_true rfl) ⟨Nat.le_of_ble_eq_true rfl, Nat.le_of_ble_eq_true rfl⟩ (Nat.le_of_ble_eq_true rfl) rfl rfl ?_
  refine g_aload_n X dX4_copyFrom_15 rfl 1 rfl rfl ?_
  refine g_get X dX4_copyFrom_16 hinX40 rfl 21 rfl 1 (by decide) hl15 rfl rfl ?_
  refine g_iconst (v := (0 : Int32)) X dX4_copyFrom_19 (by decide) rfl ?_
  refine g_aload_n X dX4_copyFrom_20 rfl 0 rfl rfl ?_
  refine g_get X dX4_copyFrom_21 hinX40 rfl 5 rfl 1 (by decide) hl15 rfl rfl ?_
  refine g_iconst (v := (0 : Int32)) X dX4_copyFrom_24 (by decide) rfl ?_
  refine g_bipush (v := (40 : Int32)) X dX4_copyFrom_25 (by decide) rfl ?_
  refine g_copyi (N := 40) X (wE D b (cpE 40 (cl 40 128 7 f) 7 (cpE 40 (cl 40 127 7 f) 6 (r))) (z) (q) ++ wH D a f na) rfl dX4_copyFrom_27 (List.mem_of_getElem? (l := wsX4_copyFrom) (i := 2) rfl) (List.mem_of_getElem? (l := wsX4_copyFrom) (i := 3) rfl) (List.mem_of_getElem? (l := wsX4_copyFrom) (i := 4) rfl) (List.mem_of_getElem? (l := wsX4_copyFrom) (i := 5) rfl) 23 7 rfl rfl rfl (Nat.le_of_ble_eq_true rfl) ⟨Nat.le_of_ble_eq_true rfl, Nat.le_of_ble_eq_true rfl⟩ (Nat.le_of_ble_eq_true rfl) rfl rfl ?_
  refine g_aload_n X dX4_copyFrom_30 rfl 1 rfl rfl ?_
  refine g_get X dX4_copyFrom_31 hinX40 rfl 21 rfl 2 (by decide) hl18 rfl rfl ?_
  refine g_iconst (v := (0 : Int32)) X dX4_copyFrom_34 (by decide) rfl ?_
  refine g_aload_n X dX4_copyFrom_35 rfl 0 rfl rfl ?_
  refine g_get X dX4_copyFrom_36 hinX40 rfl 5 rfl 2 (by decide) hl18 rfl rfl ?_
  refine g_iconst (v := (0 : Int32)) X dX4_copyFrom_39 (by decide) rfl ?_
  refine g_bipush (v := (40 : Int32)) X dX4_copyFrom_40 (by decide) rfl ?_
  refine g_copyi (N := 40) X (wE D b (cpE 40 (cl 40 129 7 f) 8 (cpE 40 (cl 40 128 7 f) 7 (cpE 40 (cl 40 127 7 f) 6 (r)))) (z) (q) ++ wH D a f na) rfl dX4_copyFrom_42 (List.mem_of_getElem? (l := wsX4_copyFrom) (i := 2) rfl) (List.mem_of_getElem? (l := wsX4_copyFrom) (i := 3) rfl) (List.mem_of_getElem? (l := wsX4_copyFrom) (i := 4) rfl) (List.mem_of_getElem? (l := wsX4_copyFrom) (i := 5) rfl) 24 8 rfl rfl rfl (Nat.le_of_ble_eq_true rfl) ⟨Nat.le_of_ble_eq_true rfl, Nat.le_of_ble_eq_true rfl⟩ (Nat.le_of_ble_eq_true rfl) rfl rfl ?_
  refine g_aload_n X dX4_copyFrom_45 rfl 1 rfl rfl ?_
  refine g_get X dX4_copyFrom_46 hinX40 rfl 21 rfl 3 (by decide) hl21 rfl rfl ?_
  refine g_iconst (v := (0 : Int32)) X dX4_copyFrom_49 (by decide) rfl ?_
  refine g_aload_n X dX4_copyFrom_50 rfl 0 rfl rfl ?_
  refine g_get X dX4_copyFrom_51 hinX40 rfl 5 rfl 3 (by decide) hl21 rfl rfl ?_
  refine g_iconst (v := (0 : Int32)) X dX4_copyFrom_54 (by decide) rfl ?_
  refine g_bipush (v := (40 : Int32)) X dX4_copyFrom_55 (by decide) rfl ?_
  refine g_copyi (N := 40) X (wE D b (cpE 40 (cl 40 130 7 f) 9 (cpE 40 (cl 40 129 7 f) 8 (cpE 40 (cl 40 128 7 f) 7 (cpE 40 (cl 40 127 7 f) 6 (r))))) (z) (q) ++ wH D a f na) rfl dX4_copyFrom_57 (List.mem_of_getElem? (l := wsX4_copyFrom) (i := 2) rfl) (List.mem_of_getElem? (l := wsX4_copyFrom) (i := 3) rfl) (List.mem_of_getElem? (l := wsX4_copyFrom) (i := 4) rfl) (List.mem_of_getElem? (l := wsX4_copyFrom) (i := 5) rfl) 25 9 rfl rfl rfl (Nat.le_of_ble_eq_true rfl) ⟨Nat.le_of_ble_eq_true rfl, Nat.le_of_ble_eq_true rfl⟩ (Nat.le_of_ble_eq_true rfl) rfl rfl ?_
  refine g_aload_n X dX4_copyFrom_60 rfl 1 rfl rfl ?_
  refine g_get X dX4_copyFrom_61 hinX40 rfl 21 rfl 4 (by decide) hl24 rfl rfl ?_
  refine g_iconst (v := (0 : Int32)) X dX4_copyFrom_64 (by decide) rfl ?_
  refine g_aload_n X dX4_copyFrom_65 rfl 0 rfl rfl ?_
  refine g_get X dX4_copyFrom_66 hinX40 rfl 5 rfl 4 (by decide) hl24 rfl rfl ?_
  refine g_iconst (v := (0 : Int32)) X dX4_copyFrom_69 (by decide) rfl ?_
  refine g_bipush (v := (40 : Int32)) X dX4_copyFrom_70 (by decide) rfl ?_
  refine g_copyi (N := 40) X (wE D b (cpE 40 (cl 40 131 7 f) 10 (cpE 40 (cl 40 130 7 f) 9 (cpE 40 (cl 40 129 7 f) 8 (cpE 40 (cl 40 128 7 f) 7 (cpE 40 (cl 40 127 7 f) 6 (r)))))) (z) (q) ++ wH D a f na) rfl dX4_copyFrom_72 (List.mem_of_getElem? (l := wsX4_copyFrom) (i := 2) rfl) (List.mem_of_getElem? (l := wsX4_copyFrom) (i := 3) rfl) (List.mem_of_getElem? (l := wsX4_copyFrom) (i := 4) rfl) (List.mem_of_getElem? (l := wsX4_copyFrom) (i := 5) rfl) 26 10 rfl rfl rfl (Nat.le_of_ble_eq_true rfl) ⟨Nat.le_of_ble_eq_true rfl, Nat.le_of_ble_eq_true rfl⟩ (Nat.le_of_ble_eq_true rfl) rfl rfl ?_
  refine g_aload_n X dX4_copyFrom_75 rfl 0 rfl rfl ?_
  refine g_aload_n X dX4_copyFrom_76 rfl 1 rfl rfl ?_
  refine g_get X dX4_copyFrom_77 hinX40 rfl 21 rfl 5 (by decide) hl33 rfl rfl ?_
  refine g_put X (wE D b (cpE 40 (cl 40 131 7 f) 10 (cpE 40 (cl 40 130 7 f) 9 (cpE 40 (cl 40 129 7 f) 8 (cpE 40 (cl 40 128 7 f) 7 (cpE 40 (cl 40 127 7 f) 6 (r)))))) (z) (up (q) 5 (mkB f 5)) ++ wH D a f na) rfl dX4_copyFrom_80 hinX40 tyX4_ok nmX4 rfl 5 rfl 5 (by decide) hl33 rfl (ty := .long) (by decide +kernel) rfl rfl (Nat.le_of_ble_eq_true rfl) rfl rfl ?_
  refine g_aload_n X dX4_copyFrom_83 rfl 0 rfl rfl ?_
  refine g_aload_n X dX4_copyFrom_84 rfl 1 rfl rfl ?_
  refine g_get X dX4_copyFrom_85 hinX40 rfl 21 rfl 6 (by decide) hl37 rfl rfl ?_
  refine g_put X (wE D b (cpE 40 (cl 40 131 7 f) 10 (cpE 40 (cl 40 130 7 f) 9 (cpE 40 (cl 40 129 7 f) 8 (cpE 40 (cl 40 128 7 f) 7 (cpE 40 (cl 40 127 7 f) 6 (r)))))) (z) (up (up (q) 5 (mkB f 5)) 6 (mkB f 6)) ++ wH D a f na) rfl dX4_copyFrom_88 hinX40 tyX4_ok nmX4 rfl 5 rfl 6 (by decide) hl37 rfl (ty := .long) (by decide +kernel) rfl rfl (Nat.le_of_ble_eq_true rfl) rfl rfl ?_
  refine g_aload_n X dX4_copyFrom_91 rfl 0 rfl rfl ?_
  refine g_aload_n X dX4_copyFrom_92 rfl 1 rfl rfl ?_
  refine g_get X dX4_copyFrom_93 hinX40 rfl 21 rfl 7 (by decide) hl40 rfl rfl ?_
  refine g_put X (wE D b (cpE 40 (cl 40 131 7 f) 10 (cpE 40 (cl 40 130 7 f) 9 (cpE 40 (cl 40 129 7 f) 8 (cpE 40 (cl 40 128 7 f) 7 (cpE 40 (cl 40 127 7 f) 6 (r)))))) (up (z) 76 (f 76)) (up (up (q) 5 (mkB f 5)) 6 (mkB f 6)) ++ wH D a f na) rfl dX4_copyFrom_96 hinX40 tyX4_ok nmX4 rfl 5 rfl 7 (by decide) hl40 rfl (ty := .int) (by decide +kernel) rfl rfl (Nat.le_of_ble_eq_true rfl) rfl rfl ?_
  refine g_vretW X hr dX4_copyFrom_99 hAe ?_
  exact ⟨rfl, rfl⟩

set_option maxHeartbeats 4000000 in
set_option maxRecDepth 100000 in
theorem c_X2_copyFrom (l : Launch) (D : DT) (a b : Nat → Nat) (f g : Nat → Int32) (na nb : Nat → Nat → Int32) (hF : FB f) : MW l yX2_copyFrom wsX2_copyFrom 2 51 0 0 D [.ref (b 0), .ref (a 0)] (wH D b g nb ++ wH D a f na) (fun v w => v = none ∧ w = wH D b f na ++ wH D a f na) := by
  refine MW.of (cc := cX2_copyFrom) (maxL := 2) (ret := none) (lv := [(0, .ref (b 0)), (1, .ref (a 0))]) (by decide +kernel) rfl (Nat.le_of_ble_eq_true rfl) rfl ?_
  intro p e s m below meth c A hAe hAg X hr hmn
  have hinX20 : ∀ w ∈ wsX20, w ∈ wsX2_copyFrom := fun w h => List.mem_cons_of_mem _ (List.mem_append_left _ (List.mem_append_left _ (List.mem_append_right _ h)))
  have hinX40 : ∀ w ∈ wsX40, w ∈ wsX2_copyFrom := fun w h => List.mem_cons_of_mem _ (List.mem_append_left _ (List.mem_append_right _ h))
  have hinX00 : ∀ w ∈ wsX00, w ∈ wsX2_copyFrom := fun w h => List.mem_cons_of_mem _ (List.mem_append_right _ h)
  have hl9 := List.mem_of_getElem? (l := wsX2_copyFrom) (i := 1) rfl
  have hl15 := List.mem_of_getElem? (l := wsX2_copyFrom) (i := 6) rfl
  have hl26 := List.mem_of_getElem? (l := wsX2_copyFrom) (i := 7) rfl
  have hl29 := List.mem_of_getElem? (l := wsX2_copyFrom) (i := 8) rfl
  have hl35 := List.mem_of_getElem? (l := wsX2_copyFrom) (i := 9) rfl
  have hl42 := List.mem_of_getElem? (l := wsX2_copyFrom) (i := 10) rfl
  have hl65 := List.mem_of_getElem? (l := wsX2_copyFrom) (i := 11) rfl
  have hl69 := List.mem_of_getElem? (l := wsX2_copyFrom) (i := 12) rfl
  have hl72 := List.mem_of_getElem? (l := wsX2_copyFrom) (i := 13) rfl
  have hl75 := List.mem_of_getElem? (l := wsX2_copyFrom) (i := 14) rfl
  refine g_ws (ws' := wE D b (rgH g nb) g (mkB g) ++ wH D a f na) rfl ?_
  refine g_aload_n X dX2_copyFrom_0 rfl 1 rfl rfl ?_
  refine g_get X dX2_copyFrom_1 hinX20 rfl 16 rfl 0 (by decide) hl9 rfl rfl ?_
  refine g_iconst (v := (0 : Int32)) X dX2_copyFrom_4 (by decide) rfl ?_
  refine g_aload_n X dX2_copyFrom_5 rfl 0 rfl rfl ?_
  refine g_get X dX2_copyFrom_6 hinX20 rfl 0 rfl 0 (by decide) hl9 rfl rfl ?_
  refine g_iconst (v := (0 : Int32)) X dX2_copyFrom_9 (by decide) rfl ?_
  refine g_bipush (v := (12 : Int32)) X dX2_copyFrom_10 (by decide) rfl ?_
  refine g_copyi (N := 12) X (wE D b (cpE 12 (cl 12 4 1 f) 1 (rgH g nb)) (g) (mkB g) ++ wH D a f na) rfl dX2_copyFrom_12 (List.mem_of_getElem? (l := wsX2_copyFrom) (i := 2) rfl) (List.mem_of_getElem? (l := wsX2_copyFrom) (i := 3) rfl) (List.mem_of_getElem? (l := wsX2_copyFrom) (i := 4) rfl) (List.mem_of_getElem? (l := wsX2_copyFrom) (i := 5) rfl) 17 1 rfl rfl rfl (Nat.le_of_ble_eq_true rfl) ⟨Nat.le_of_ble_eq_true rfl, Nat.le_of_ble_eq_true rfl⟩ (Nat.le_of_ble_eq_true rfl) rfl rfl ?_
  refine g_aload_n X dX2_copyFrom_15 rfl 1 rfl rfl ?_
  refine g_get X dX2_copyFrom_16 hinX20 rfl 16 rfl 1 (by decide) hl15 rfl rfl ?_
  refine g_iconst (v := (0 : Int32)) X dX2_copyFrom_19 (by decide) rfl ?_
  refine g_aload_n X dX2_copyFrom_20 rfl 0 rfl rfl ?_
  refine g_get X dX2_copyFrom_21 hinX20 rfl 0 rfl 1 (by decide) hl15 rfl rfl ?_
  refine g_iconst (v := (0 : Int32)) X dX2_copyFrom_24 (by decide) rfl ?_
  refine g_bipush (v := (60 : Int32)) X dX2_copyFrom_25 (by decide) rfl ?_
  refine g_copyi (N := 60) X (wE D b (cpE 60 (cl 60 16 1 f) 2 (cpE 12 (cl 12 4 1 f) 1 (rgH g nb))) (g) (mkB g) ++ wH D a f na) rfl dX2_copyFrom_27 (List.mem_of_getElem? (l := wsX2_copyFrom) (i := 2) rfl) (List.mem_of_getElem? (l := wsX2_copyFrom) (i := 3) rfl) (List.mem_of_getElem? (l := wsX2_copyFrom) (i := 4) rfl) (List.mem_of_getElem? (l := wsX2_copyFrom) (i := 5) rfl) 18 2 rfl rfl rfl (Nat.le_of_ble_eq_true rfl) ⟨Nat.le_of_ble_eq_true rfl, Nat.le_of_ble_eq_true rfl⟩ (Nat.le_of_ble_eq_true rfl) rfl rfl ?_
  refine g_aload_n X dX2_copyFrom_30 rfl 1 rfl rfl ?_
  refine g_get X dX2_copyFrom_31 hinX20 rfl 16 rfl 2 (by decide) hl26 rfl rfl ?_
  refine g_iconst (v := (0 : Int32)) X dX2_copyFrom_34 (by decide) rfl ?_
  refine g_aload_n X dX2_copyFrom_35 rfl 0 rfl rfl ?_
  refine g_get X dX2_copyFrom_36 hinX20 rfl 0 rfl 2 (by decide) hl26 rfl rfl ?_
  refine g_iconst (v := (0 : Int32)) X dX2_copyFrom_39 (by decide) rfl ?_
  refine g_iconst (v := (4 : Int32)) X dX2_copyFrom_40 (by decide) rfl ?_
  refine g_copyi (N := 4) X (wE D b (cpE 4 (cl 4 0 1 f) 3 (cpE 60 (cl 60 16 1 f) 2 (cpE 12 (cl 12 4 1 f) 1 (rgH g nb)))) (g) (mkB g) ++ wH D a f na) rfl dX2_copyFrom_41 (List.mem_of_getElem? (l := wsX2_copyFrom) (i := 2) rfl) (List.mem_of_getElem? (l := wsX2_copyFrom) (i := 3) rfl) (List.mem_of_getElem? (l := wsX2_copyFrom) (i := 4) rfl) (List.mem_of_getElem? (l := wsX2_copyFrom) (i := 5) rfl) 19 3 rfl rfl rfl (Nat.le_of_ble_eq_true rfl) ⟨Nat.le_of_ble_eq_true rfl, Nat.le_of_ble_eq_true rfl⟩ (Nat.le_of_ble_eq_true rfl) rfl rfl ?_
  refine g_aload_n X dX2_copyFrom_44 rfl 1 rfl rfl ?_
  refine g_get X dX2_copyFrom_45 hinX20 rfl 16 rfl 3 (by decide) hl29 rfl rfl ?_
  refine g_iconst (v := (0 : Int32)) X dX2_copyFrom_48 (by decide) rfl ?_
  refine g_aload_n X dX2_copyFrom_49 rfl 0 rfl rfl ?_
  refine g_get X dX2_copyFrom_50 hinX20 rfl 0 rfl 3 (by decide) hl29 rfl rfl ?_
  refine g_iconst (v := (0 : Int32)) X dX2_copyFrom_53 (by decide) rfl ?_
  refine g_bipush (v := (7 : Int32)) X dX2_copyFrom_54 (by decide) rfl ?_
  refine g_copyi (N := 7) X (wE D b (cpE 7 (cl 7 83 1 f) 4 (cpE 4 (cl 4 0 1 f) 3 (cpE 60 (cl 60 16 1 f) 2 (cpE 12 (cl 12 4 1 f) 1 (rgH g nb))))) (g) (mkB g) ++ wH D a f na) rfl dX2_copyFrom_56 (List.mem_of_getElem? (l := wsX2_copyFrom) (i := 2) rfl) (List.mem_of_getElem? (l := wsX2_copyFrom) (i := 3) rfl) (List.mem_of_getElem? (l := wsX2_copyFrom) (i := 4) rfl) (List.mem_of_getElem? (l := wsX2_copyFrom) (i := 5) rfl) 20 4 rfl rfl rfl (Nat.le_of_ble_eq_true rfl) ⟨Nat.le_of_ble_eq_true rfl, Nat.le_of_ble_eq_true rfl⟩ (Nat.le_of_ble_eq_true rfl) rfl rfl ?_
  refine g_aload_n X dX2_copyFrom_59 rfl 0 rfl rfl ?_
  refine g_get X dX2_copyFrom_60 hinX20 rfl 0 rfl 4 (by decide) hl35 rfl rfl ?_
  refine g_aload_n X dX2_copyFrom_63 rfl 1 rfl rfl ?_
  refine g_get X dX2_copyFrom_64 hinX20 rfl 16 rfl 4 (by decide) hl35 rfl rfl ?_
  refine g_callVWsq (n := 1) (As := [_]) (rest := []) X hAg rfl (c_X4_copyFrom l D a b f na (cpE 7 (cl 7 83 1 f) 4 (cpE 4 (cl 4 0 1 f) 3 (cpE 60 (cl 60 16 1 f) 2 (cpE 12 (cl 12 4 1 f) 1 (rgH g nb))))) (g) (mkB g) hF) gX2_copyFrom_X4_copyFrom rfl (by decide +kernel) ⟨Nat.le_of_ble_eq_true rfl, Nat.le_of_ble_eq_true rfl⟩ 5 rfl rfl rfl rfl (Nat.le_of_ble_eq_true rfl) dX2_copyFrom_67 ⟨Nat.le_of_ble_eq_true rfl, Nat.le_of_ble_eq_true rfl⟩ rfl (fun v w hv => ?_)
  obtain ⟨rfl, rfl⟩ := hv
  refine ⟨rfl, ?_⟩
  refine g_st (st' := []) rfl ?_
  refine g_aload_n X dX2_copyFrom_70 rfl 0 rfl rfl ?_
  refine g_get X dX2_copyFrom_71 hinX20 rfl 0 rfl 5 (by decide) hl42 rfl rfl ?_
  refine g_aload_n X dX2_copyFrom_74 rfl 1 rfl rfl ?_
  refine g_get X dX2_copyFrom_75 hinX20 rfl 16 rfl 5 (by decide) hl42 rfl rfl ?_
  refine g_callVWsq (n := 1) (As := [_]) (rest := []) X hAg rfl (c_X0_copyFrom l D a b f na (cpS f (cpE 7 (cl 7 83 1 f) 4 (cpE 4 (cl 4 0 1 f) 3 (cpE 60 (cl 60 16 1 f) 2 (cpE 12 (cl 12 4 1 f) 1 (rgH g nb)))))) (up (g) 76 (f 76)) (up (up (mkB g) 5 (mkB f 5)) 6 (mkB f 6))) gX2_copyFrom_X0_copyFrom rfl (by decide +kernel) ⟨Nat.le_of_ble_eq_true rfl, Nat.le_of_ble_eq_true rfl⟩ 11 rfl rfl rfl rfl (Nat.le_of_ble_eq_true rfl) dX2_copyFrom_78 ⟨Nat.le_of_ble_eq_true rfl, Nat.le_of_ble_eq_true rfl⟩ rfl (fun v w hv => ?_)
  obtain ⟨rfl, rfl⟩ := hv
  refine ⟨rfl, ?_⟩
  refine g_st (st' := []) rfl ?_
  refine g_aload_n X dX2_copyFrom_81 rfl 0 rfl rfl ?_
  refine g_aload_n X dX2_copyFrom_82 rfl 1 rfl rfl ?_
  refine g_get X dX2_copyFrom_83 hinX20 rfl 16 rfl 6 (by decide) hl65 rfl rfl ?_
  refine g_put X (wE D b (cpB na (cpS f (cpE 7 (cl 7 83 1 f) 4 (cpE 4 (cl 4 0 1 f) 3 (cpE 60 (cl 60 16 1 f) 2 (cpE 12 (cl 12 4 1 f) 1 (rgH g nb))))))) (up (up (up (up (up (g) 76 (f 76)) 90 (f 90)) 81 (f 81)) 82 (f 82)) 77 (f 77)) (up (up (mkB g) 5 (mkB f 5)) 6 (mkB f 6)) ++ wH D a f na) rfl dX2_copyFrom_86 hinX20 tyX2_ok nmX2 rfl 0 rfl 6 (by decide) hl65 rfl (ty := .int) (by decide +kernel) rfl rfl (Nat.le_of_ble_eq_true rfl) rfl rfl ?_
  refine g_aload_n X dX2_copyFrom_89 rfl 0 rfl rfl ?_
  refine g_aload_n X dX2_copyFrom_90 rfl 1 rfl rfl ?_
  refine g_get X dX2_copyFrom_91 hinX20 rfl 16 rfl 7 (by decide) hl69 rfl rfl ?_
  refine g_put X (wE D b (cpB na (cpS f (cpE 7 (cl 7 83 1 f) 4 (cpE 4 (cl 4 0 1 f) 3 (cpE 60 (cl 60 16 1 f) 2 (cpE 12 (cl 12 4 1 f) 1 (rgH g nb))))))) (up (up (up (up (up (up (g) 76 (f 76)) 90 (f 90)) 81 (f 81)) 82 (f 82)) 77 (f 77)) 78 (f 78)) (up (up (mkB g) 5 (mkB f 5)) 6 (mkB f 6)) ++ wH D a f na) rfl dX2_copyFrom_94 hinX20 tyX2_ok nmX2 rfl 0 rfl 7 (by decide) hl69 rfl (ty := .int) (by decide +kernel) rfl rfl (Nat.le_of_ble_eq_true rfl) rfl rfl ?_
  refine g_aload_n X dX2_copyFrom_97 rfl 0 rfl rfl ?_
  refine g_aload_n X dX2_copyFrom_98 rfl 1 rfl rfl ?_
  refine g_get X dX2_copyFrom_99 hinX20 rfl 16 rfl 8 (by decide) hl72 rfl rfl ?_
  refine g_put X (wE D b (cpB na (cpS f (cpE 7 (cl 7 83 1 f) 4 (cpE 4 (cl 4 0 1 f) 3 (cpE 60 (cl 60 16 1 f) 2 (cpE 12 (cl 12 4 1 f) 1 (rgH g nb))))))) (up (up (up (up (up (up (up (g) 76 (f 76)) 90 (f 90)) 81 (f 81)) 82 (f 82)) 77 (f 77)) 78 (f 78)) 79 (f 79)) (up (up (mkB g) 5 (mkB f 5)) 6 (mkB f 6)) ++ wH D a f na) rfl dX2_copyFrom_102 hinX20 tyX2_ok nmX2 rfl 0 rfl 8 (by decide) hl72 rfl (ty := .int) (by decide +kernel) rfl rfl (Nat.le_of_ble_eq_true rfl) rfl rfl ?_
  refine g_aload_n X dX2_copyFrom_105 rfl 0 rfl rfl ?_
  refine g_aload_n X dX2_copyFrom_106 rfl 1 rfl rfl ?_
  refine g_get X dX2_copyFrom_107 hinX20 rfl 16 rfl 9 (by decide) hl75 rfl rfl ?_
  refine g_put X (wE D b (cpB na (cpS f (cpE 7 (cl 7 83 1 f) 4 (cpE 4 (cl 4 0 1 f) 3 (cpE 60 (cl 60 16 1 f) 2 (cpE 12 (cl 12 4 1 f) 1 (rgH g nb))))))) (up (up (up (up (up (up (up (up (g) 76 (f 76)) 90 (f 90)) 81 (f 81)) 82 (f 82)) 77 (f 77)) 78 (f 78)) 79 (f 79)) 80 (f 80)) (up (up (mkB g) 5 (mkB f 5)) 6 (mkB f 6)) ++ wH D a f na) rfl dX2_copyFrom_110 hinX20 tyX2_ok nmX2 rfl 0 rfl 9 (by decide) hl75 rfl (ty := .int) (by decide +kernel) rfl rfl (Nat.le_of_ble_eq_true rfl) rfl rfl ?_
  refine g_vretW X hr dX2_copyFrom_113 hAe ?_
  exact ⟨rfl, congrArg (fun z => z ++ wH D a f na) (wE_cp (g := g) (nb := nb))⟩

set_option maxHeartbeats 4000000 in
set_option maxRecDepth 100000 in
theorem c_X2_init (l : Launch) (D : DT) (x : Nat) : MW l yX2_init wsX2_init 2 50 15 330 D [.ref x] [(x, .inr (2, [.null, .null, .null, .null, .null, .null, .int 0, .int 0, .int 0, .int 0]))] (fun v w => v = none ∧ ∃ b : Nat → Nat, b 0 = x ∧ w = wH D b f0S na0S) := by
  refine MW.of (cc := cX2_init) (maxL := 1) (ret := none) (lv := [(0, .ref x)]) (by decide +kernel) rfl (Nat.le_of_ble_eq_true rfl) rfl ?_
  intro p e s m below meth c A hAe hAg X hr hmn
  have hinX20 : ∀ w ∈ wsX20, w ∈ wsX2_init := fun w h => List.mem_cons_of_mem _ (List.mem_append_left _ (List.mem_append_left _ (List.mem_append_right _ h)))
  have hinX40 : ∀ w ∈ wsX40, w ∈ wsX2_init := fun w h => List.mem_cons_of_mem _ (List.mem_append_left _ (List.mem_append_right _ h))
  have hinX00 : ∀ w ∈ wsX00, w ∈ wsX2_init := fun w h => List.mem_cons_of_mem _ (List.mem_append_right _ h)
  have hl9 := List.mem_of_getElem? (l := wsX2_init) (i := 5) rfl
  have hl15 := List.mem_of_getElem? (l := wsX2_init) (i := 6) rfl
  have hl26 := List.mem_of_getElem? (l := wsX2_init) (i := 13) rfl
  have hl29 := List.mem_of_getElem? (l := wsX2_init) (i := 14) rfl
  have hl35 := List.mem_of_getElem? (l := wsX2_init) (i := 18) rfl
  have hl42 := List.mem_of_getElem? (l := wsX2_init) (i := 22) rfl
  refine g_aload_n X dX2_init_0 rfl 0 rfl rfl ?_
  refine g_objInit X dX2_init_1 (List.mem_of_getElem? (l := wsX2_init) (i := 1) rfl) (List.mem_of_getElem? (l := wsX2_init) (i := 2) rfl) (List.mem_of_getElem? (l := wsX2_init) (i := 3) rfl) ⟨Nat.le_of_ble_eq_true rfl, Nat.le_of_ble_eq_true rfl⟩ (Nat.le_of_ble_eq_true rfl) rfl ?_
  refine g_aload_n X dX2_init_4 rfl 0 rfl rfl ?_
  refine g_bipush (v := (12 : Int32)) X dX2_init_5 (by decide) rfl ?_
  refine g_newa_int (N := 12) X hAg rfl dX2_init_7 (List.mem_of_getElem? (l := wsX2_init) (i := 4) rfl) rfl (Nat.le_of_ble_eq_true rfl) ⟨Nat.le_of_ble_eq_true rfl, Nat.le_of_ble_eq_true rfl⟩ rfl (fun q1 => ?_)
  refine g_ws (ws' := [(x, .inr (2, [.null, .null, .null, .null, .null, .null, .int 0, .int 0, .int 0, .int 0])), (q1, .inl (D.2.1, 12, .inl (fun _ => 0)))]) rfl ?_
  refine g_putF X [(x, .inr (2, [.ref q1, .null, .null, .null, .null, .null, .int 0, .int 0, .int 0, .int 0])), (q1, .inl (D.2.1, 12, .inl (fun _ => 0)))] rfl dX2_init_9 hinX20 tyX2_ok nmX2 rfl 0 rfl 0 (by decide) hl9 rfl hmn rfl (ty := tyX2 0) (by decide +kernel) rfl rfl (Nat.le_of_ble_eq_true rfl) rfl rfl ?_
  refine g_aload_n X dX2_init_12 rfl 0 rfl rfl ?_
  refine g_bipush (v := (60 : Int32)) X dX2_init_13 (by decide) rfl ?_
  refine g_newa_int (N := 60) X hAg rfl dX2_init_15 (List.mem_of_getElem? (l := wsX2_init) (i := 4) rfl) rfl (Nat.le_of_ble_eq_true rfl) ⟨Nat.le_of_ble_eq_true rfl, Nat.le_of_ble_eq_true rfl⟩ rfl (fun q2 => ?_)
  refine g_ws (ws' := [(x, .inr (2, [.ref q1, .null, .null, .null, .null, .null, .int 0, .int 0, .int 0, .int 0])), (q1, .inl (D.2.1, 12, .inl (fun _ => 0))), (q2, .inl (D.2.1, 60, .inl (fun _ => 0)))]) rfl ?_
  refine g_putF X [(x, .inr (2, [.ref q1, .ref q2, .null, .null, .null, .null, .int 0, .int 0, .int 0, .int 0])), (q1, .inl (D.2.1, 12, .inl (fun _ => 0))), (q2, .inl (D.2.1, 60, .inl (fun _ => 0)))] rfl dX2_init_17 hinX20 tyX2_ok nmX2 rfl 0 rfl 1 (by decide) hl15 rfl hmn rfl (ty := tyX2 1) (by decide +kernel) rfl rfl (Nat.le_of_ble_eq_true rfl) rfl rfl ?_
  refine g_aload_n X dX2_init_20 rfl 0 rfl rfl ?_
  obtain ⟨t0, hZ0, hT0, hX0⟩ := X.first
  refine g_getsN (host := "VisaPages") X dX2_init_21 (by decide +kernel) hZ0 rfl ?_
  refine g_cloneF X hAg rfl dX2_init_24 (List.mem_of_getElem? (l := wsX2_init) (i := 7) rfl) (List.mem_of_getElem? (l := wsX2_init) (i := 8) rfl) (List.mem_of_getElem? (l := wsX2_init) (i := 9) rfl) (List.mem_of_getElem? (l := wsX2_init) (i := 10) rfl) (List.mem_of_getElem? (l := wsX2_init) (i := 11) rfl) hT0 hX0 ⟨Nat.le_of_ble_eq_true rfl, Nat.le_of_ble_eq_true rfl⟩ (Nat.le_of_ble_eq_true rfl) ⟨Nat.le_of_ble_eq_true rfl, Nat.le_of_ble_eq_true rfl⟩ rfl (fun q3 => ?_)
  refine g_ws (ws' := [(x, .inr (2, [.ref q1, .ref q2, .null, .null, .null, .null, .int 0, .int 0, .int 0, .int 0])), (q1, .inl (D.2.1, 12, .inl (fun _ => 0))), (q2, .inl (D.2.1, 60, .inl (fun _ => 0))), (q3, .inl (D.2.1, 4, .inl (fsFirst)))]) rfl ?_
  refine g_castI X dX2_init_27 (List.mem_of_getElem? (l := wsX2_init) (i := 12) rfl) 3 rfl rfl ?_
  refine g_putF X [(x, .inr (2, [.ref q1, .ref q2, .ref q3, .null, .null, .null, .int 0, .int 0, .int 0, .int 0])), (q1, .inl (D.2.1, 12, .inl (fun _ => 0))), (q2, .inl (D.2.1, 60, .inl (fun _ => 0))), (q3, .inl (D.2.1, 4, .inl (fsFirst)))] rfl dX2_init_30 hinX20 tyX2_ok nmX2 rfl 0 rfl 2 (by decide) hl26 rfl hmn rfl (ty := tyX2 2) (by decide +kernel) rfl rfl (Nat.le_of_ble_eq_true rfl) rfl rfl ?_
  refine g_aload_n X dX2_init_33 rfl 0 rfl rfl ?_
  refine g_bipush (v := (7 : Int32)) X dX2_init_34 (by decide) rfl ?_
  refine g_newa_int (N := 7) X hAg rfl dX2_init_36 (List.mem_of_getElem? (l := wsX2_init) (i := 4) rfl) rfl (Nat.le_of_ble_eq_true rfl) ⟨Nat.le_of_ble_eq_true rfl, Nat.le_of_ble_eq_true rfl⟩ rfl (fun q4 => ?_)
  refine g_ws (ws' := [(x, .inr (2, [.ref q1, .ref q2, .ref q3, .null, .null, .null, .int 0, .int 0, .int 0, .int 0])), (q1, .inl (D.2.1, 12, .inl (fun _ => 0))), (q2, .inl (D.2.1, 60, .inl (fun _ => 0))), (q3, .inl (D.2.1, 4, .inl (fsFirst))), (q4, .inl (D.2.1, 7, .inl (fun _ => 0)))]) rfl ?_
  refine g_putF X [(x, .inr (2, [.ref q1, .ref q2, .ref q3, .ref q4, .null, .null, .int 0, .int 0, .int 0, .int 0])), (q1, .inl (D.2.1, 12, .inl (fun _ => 0))), (q2, .inl (D.2.1, 60, .inl (fun _ => 0))), (q3, .inl (D.2.1, 4, .inl (fsFirst))), (q4, .inl (D.2.1, 7, .inl (fun _ => 0)))] rfl dX2_init_38 hinX20 tyX2_ok nmX2 rfl 0 rfl 3 (by decide) hl29 rfl hmn rfl (ty := tyX2 3) (by decide +kernel) rfl rfl (Nat.le_of_ble_eq_true rfl) rfl rfl ?_
  refine g_aload_n X dX2_init_41 rfl 0 rfl rfl ?_
  refine g_new (ci := 4) (fs := [.null, .null, .null, .null, .null, .long 0, .long 0, .int 0]) X tyX4 hAg rfl dX2_init_42 hinX40 tyX4_ok (List.mem_of_getElem? (l := wsX2_init) (i := 15) rfl) (List.mem_of_getElem? (l := wsX2_init) (i := 16) rfl) (List.mem_of_getElem? (l := wsX2_init) (i := 17) rfl) rfl (by decide) ⟨Nat.le_of_ble_eq_true rfl, Nat.le_of_ble_eq_true rfl⟩ rfl (fun q5 => ?_)
  refine g_ws (ws' := [(x, .inr (2, [.ref q1, .ref q2, .ref q3, .ref q4, .null, .null, .int 0, .int 0, .int 0, .int 0])), (q1, .inl (D.2.1, 12, .inl (fun _ => 0))), (q2, .inl (D.2.1, 60, .inl (fun _ => 0))), (q3, .inl (D.2.1, 4, .inl (fsFirst))), (q4, .inl (D.2.1, 7, .inl (fun _ => 0))), (q5, .inr (4, [.null, .null, .null, .null, .null, .long 0, .long 0, .int 0]))]) rfl ?_
  refine g_dup X dX2_init_45 rfl rfl ?_
  refine g_callINA (n := 0) (As := []) (rest := [_, _]) X hAg rfl (c_X4_init l D q5) gX2_init_X4_init_n34 (List.mem_of_getElem? (l := wsX2_init) (i := 17) rfl) (by decide +kernel) (List.mem_of_getElem? (l := wsX2_init) (i := 23) rfl) rfl rfl (by decide +kernel) ⟨Nat.le_of_ble_eq_true rfl, Nat.le_of_ble_eq_true rfl⟩ [5] rfl (by decide) rfl rfl (Nat.le_of_ble_eq_true rfl) dX2_init_46 ⟨Nat.le_of_ble_eq_true rfl, Nat.le_of_ble_eq_true rfl⟩ rfl (fun v w hv => ?_)
  obtain ⟨rfl, q6, q7, q8, q9, q10, rfl⟩ := hv
  refine ⟨[_], _, rfl, rfl, ?_⟩
  refine g_ws (ws' := [(x, .inr (2, [.ref q1, .ref q2, .ref q3, .ref q4, .null, .null, .int 0, .int 0, .int 0, .int 0])), (q1, .inl (D.2.1, 12, .inl (fun _ => 0))), (q2, .inl (D.2.1, 60, .inl (fun _ => 0))), (q3, .inl (D.2.1, 4, .inl (fsFirst))), (q4, .inl (D.2.1, 7, .inl (fun _ => 0))), (q5, .inr (4, [.ref q6, .ref q7, .ref q8, .ref q9, .ref q10, .long 0, .long 0, .int 0])), (q6, .inl (D.2.1, 40, .inl (fun _ => 0))), (q7, .inl (D.2.1, 40, .inl (fun _ => 0))), (q8, .inl (D.2.1, 40, .inl (fun _ => 0))), (q9, .inl (D.2.1, 40, .inl (fun _ => 0))), (q10, .inl (D.2.1, 40, .inl (fun _ => 0)))]) rfl ?_
  refine g_st (st' := [_, _]) rfl ?_
  refine g_putF X [(x, .inr (2, [.ref q1, .ref q2, .ref q3, .ref q4, .ref q5, .null, .int 0, .int 0, .int 0, .int 0])), (q1, .inl (D.2.1, 12, .inl (fun _ => 0))), (q2, .inl (D.2.1, 60, .inl (fun _ => 0))), (q3, .inl (D.2.1, 4, .inl (fsFirst))), (q4, .inl (D.2.1, 7, .inl (fun _ => 0))), (q5, .inr (4, [.ref q6, .ref q7, .ref q8, .ref q9, .ref q10, .long 0, .long 0, .int 0])), (q6, .inl (D.2.1, 40, .inl (fun _ => 0))), (q7, .inl (D.2.1, 40, .inl (fun _ => 0))), (q8, .inl (D.2.1, 40, .inl (fun _ => 0))), (q9, .inl (D.2.1, 40, .inl (fun _ => 0))), (q10, .inl (D.2.1, 40, .inl (fun _ => 0)))] rfl dX2_init_49 hinX20 tyX2_ok nmX2 rfl 0 rfl 4 (by decide) hl35 rfl hmn rfl (ty := tyX2 4) (by decide +kernel) rfl rfl (Nat.le_of_ble_eq_true rfl) rfl rfl ?_
  refine g_aload_n X dX2_init_52 rfl 0 rfl rfl ?_
  refine g_new (ci := 0) (fs := [.null, .null, .null, .null, .int 0, .int 0, .int 0]) X tyX0 hAg rfl dX2_init_53 hinX00 tyX0_ok (List.mem_of_getElem? (l := wsX2_init) (i := 19) rfl) (List.mem_of_getElem? (l := wsX2_init) (i := 20) rfl) (List.mem_of_getElem? (l := wsX2_init) (i := 21) rfl) rfl (by decide) ⟨Nat.le_of_ble_eq_true rfl, Nat.le_of_ble_eq_true rfl⟩ rfl (fun q11 => ?_)
  refine g_ws (ws' := [(x, .inr (2, [.ref q1, .ref q2, .ref q3, .ref q4, .ref q5, .null, .int 0, .int 0, .int 0, .int 0])), (q1, .inl (D.2.1, 12, .inl (fun _ => 0))), (q2, .inl (D.2.1, 60, .inl (fun _ => 0))), (q3, .inl (D.2.1, 4, .inl (fsFirst))), (q4, .inl (D.2.1, 7, .inl (fun _ => 0))), (q5, .inr (4, [.ref q6, .ref q7, .ref q8, .ref q9, .ref q10, .long 0, .long 0, .int 0])), (q6, .inl (D.2.1, 40, .inl (fun _ => 0))), (q7, .inl (D.2.1, 40, .inl (fun _ => 0))), (q8, .inl (D.2.1, 40, .inl (fun _ => 0))), (q9, .inl (D.2.1, 40, .inl (fun _ => 0))), (q10, .inl (D.2.1, 40, .inl (fun _ => 0))), (q11, .inr (0, [.null, .null, .null, .null, .int 0, .int 0, .int 0]))]) rfl ?_
  refine g_dup X dX2_init_56 rfl rfl ?_
  refine g_callINA (n := 0) (As := []) (rest := [_, _]) X hAg rfl (c_X0_init l D q11) gX2_init_X0_init_n41 (List.mem_of_getElem? (l := wsX2_init) (i := 21) rfl) (by decide +kernel) (List.mem_of_getElem? (l := wsX2_init) (i := 31) rfl) rfl rfl (by decide +kernel) ⟨Nat.le_of_ble_eq_true rfl, Nat.le_of_ble_eq_true rfl⟩ [11] rfl (by decide) rfl rfl (Nat.le_of_ble_eq_true rfl) dX2_init_57 ⟨Nat.le_of_ble_eq_true rfl, Nat.le_of_ble_eq_true rfl⟩ rfl (fun v w hv => ?_)
  obtain ⟨rfl, q12, q13, q14, q15, rfl⟩ := hv
  refine ⟨[_], _, rfl, rfl, ?_⟩
  refine g_ws (ws' := [(x, .inr (2, [.ref q1, .ref q2, .ref q3, .ref q4, .ref q5, .null, .int 0, .int 0, .int 0, .int 0])), (q1, .inl (D.2.1, 12, .inl (fun _ => 0))), (q2, .inl (D.2.1, 60, .inl (fun _ => 0))), (q3, .inl (D.2.1, 4, .inl (fsFirst))), (q4, .inl (D.2.1, 7, .inl (fun _ => 0))), (q5, .inr (4, [.ref q6, .ref q7, .ref q8, .ref q9, .ref q10, .long 0, .long 0, .int 0])), (q6, .inl (D.2.1, 40, .inl (fun _ => 0))), (q7, .inl (D.2.1, 40, .inl (fun _ => 0))), (q8, .inl (D.2.1, 40, .inl (fun _ => 0))), (q9, .inl (D.2.1, 40, .inl (fun _ => 0))), (q10, .inl (D.2.1, 40, .inl (fun _ => 0))), (q11, .inr (0, [.ref q12, .ref q13, .ref q14, .ref q15, .int 0, .int 0, .int 0])), (q12, .inl (D.2.1, 8, .inl (fun _ => 0))), (q13, .inl (D.2.1, 8, .inl (fun _ => 0))), (q14, .inl (D.2.1, 8, .inl (fun _ => 0))), (q15, .inl (D.2.1, 8, .inl (fun _ => 0)))]) rfl ?_
  refine g_st (st' := [_, _]) rfl ?_
  refine g_putF X [(x, .inr (2, [.ref q1, .ref q2, .ref q3, .ref q4, .ref q5, .ref q11, .int 0, .int 0, .int 0, .int 0])), (q1, .inl (D.2.1, 12, .inl (fun _ => 0))), (q2, .inl (D.2.1, 60, .inl (fun _ => 0))), (q3, .inl (D.2.1, 4, .inl (fsFirst))), (q4, .inl (D.2.1, 7, .inl (fun _ => 0))), (q5, .inr (4, [.ref q6, .ref q7, .ref q8, .ref q9, .ref q10, .long 0, .long 0, .int 0])), (q6, .inl (D.2.1, 40, .inl (fun _ => 0))), (q7, .inl (D.2.1, 40, .inl (fun _ => 0))), (q8, .inl (D.2.1, 40, .inl (fun _ => 0))), (q9, .inl (D.2.1, 40, .inl (fun _ => 0))), (q10, .inl (D.2.1, 40, .inl (fun _ => 0))), (q11, .inr (0, [.ref q12, .ref q13, .ref q14, .ref q15, .int 0, .int 0, .int 0])), (q12, .inl (D.2.1, 8, .inl (fun _ => 0))), (q13, .inl (D.2.1, 8, .inl (fun _ => 0))), (q14, .inl (D.2.1, 8, .inl (fun _ => 0))), (q15, .inl (D.2.1, 8, .inl (fun _ => 0)))] rfl dX2_init_60 hinX20 tyX2_ok nmX2 rfl 0 rfl 5 (by decide) hl42 rfl hmn rfl (ty := tyX2 5) (by decide +kernel) rfl rfl (Nat.le_of_ble_eq_true rfl) rfl rfl ?_
  refine g_aload_n X dX2_init_63 rfl 0 rfl rfl ?_
  refine g_get X dX2_init_64 hinX20 rfl 0 rfl 0 (by decide) hl9 rfl rfl ?_
  refine g_bipush (v := ((-6) : Int32)) X dX2_init_67 (by decide) rfl ?_
  refine g_callSW (n := 2) (As := [_, _]) (rest := []) X hAg rfl (c_J7_fill_53178 l D q1 12 (fun _ => 0) (-6) (by decide)) gX2_init_J7_fill_53178 rfl (by decide +kernel) ⟨Nat.le_of_ble_eq_true rfl, Nat.le_of_ble_eq_true rfl⟩ [1] rfl (by decide) rfl rfl (Nat.le_of_ble_eq_true rfl) dX2_init_69 ⟨Nat.le_of_ble_eq_true rfl, Nat.le_of_ble_eq_true rfl⟩ rfl (fun v w hv => ?_)
  obtain ⟨rfl, rfl⟩ := hv
  refine ⟨rfl, ?_⟩
  refine g_ws (ws' := [(x, .inr (2, [.ref q1, .ref q2, .ref q3, .ref q4, .ref q5, .ref q11, .int 0, .int 0, .int 0, .int 0])), (q1, .inl (D.2.1, 12, .inl (filI (fun _ => 0) (-6) 12))), (q2, .inl (D.2.1, 60, .inl (fun _ => 0))), (q3, .inl (D.2.1, 4, .inl (fsFirst))), (q4, .inl (D.2.1, 7, .inl (fun _ => 0))), (q5, .inr (4, [.ref q6, .ref q7, .ref q8, .ref q9, .ref q10, .long 0, .long 0, .int 0])), (q6, .inl (D.2.1, 40, .inl (fun _ => 0))), (q7, .inl (D.2.1, 40, .inl (fun _ => 0))), (q8, .inl (D.2.1, 40, .inl (fun _ => 0))), (q9, .inl (D.2.1, 40, .inl (fun _ => 0))), (q10, .inl (D.2.1, 40, .inl (fun _ => 0))), (q11, .inr (0, [.ref q12, .ref q13, .ref q14, .ref q15, .int 0, .int 0, .int 0])), (q12, .inl (D.2.1, 8, .inl (fun _ => 0))), (q13, .inl (D.2.1, 8, .inl (fun _ => 0))), (q14, .inl (D.2.1, 8, .inl (fun _ => 0))), (q15, .inl (D.2.1, 8, .inl (fun _ => 0)))]) rfl ?_
  refine g_st (st' := []) rfl ?_
  refine g_aload_n X dX2_init_72 rfl 0 rfl rfl ?_
  refine g_get X dX2_init_73 hinX20 rfl 0 rfl 1 (by decide) hl15 rfl rfl ?_
  refine g_bipush (v := ((-6) : Int32)) X dX2_init_76 (by decide) rfl ?_
  refine g_callSW (n := 2) (As := [_, _]) (rest := []) X hAg rfl (c_J7_fill_53178 l D q2 60 (fun _ => 0) (-6) (by decide)) gX2_init_J7_fill_53178 rfl (by decide +kernel) ⟨Nat.le_of_ble_eq_true rfl, Nat.le_of_ble_eq_true rfl⟩ [2] rfl (by decide) rfl rfl (Nat.le_of_ble_eq_true rfl) dX2_init_78 ⟨Nat.le_of_ble_eq_true rfl, Nat.le_of_ble_eq_true rfl⟩ rfl (fun v w hv => ?_)
  obtain ⟨rfl, rfl⟩ := hv
  refine ⟨rfl, ?_⟩
  refine g_ws (ws' := [(x, .inr (2, [.ref q1, .ref q2, .ref q3, .ref q4, .ref q5, .ref q11, .int 0, .int 0, .int 0, .int 0])), (q1, .inl (D.2.1, 12, .inl (filI (fun _ => 0) (-6) 12))), (q2, .inl (D.2.1, 60, .inl (filI (fun _ => 0) (-6) 60))), (q3, .inl (D.2.1, 4, .inl (fsFirst))), (q4, .inl (D.2.1, 7, .inl (fun _ => 0))), (q5, .inr (4, [.ref q6, .ref q7, .ref q8, .ref q9, .ref q10, .long 0, .long 0, .int 0])), (q6, .inl (D.2.1, 40, .inl (fun _ => 0))), (q7, .inl (D.2.1, 40, .inl (fun _ => 0))), (q8, .inl (D.2.1, 40, .inl (fun _ => 0))), (q9, .inl (D.2.1, 40, .inl (fun _ => 0))), (q10, .inl (D.2.1, 40, .inl (fun _ => 0))), (q11, .inr (0, [.ref q12, .ref q13, .ref q14, .ref q15, .int 0, .int 0, .int 0])), (q12, .inl (D.2.1, 8, .inl (fun _ => 0))), (q13, .inl (D.2.1, 8, .inl (fun _ => 0))), (q14, .inl (D.2.1, 8, .inl (fun _ => 0))), (q15, .inl (D.2.1, 8, .inl (fun _ => 0)))]) rfl ?_
  refine g_st (st' := []) rfl ?_
  refine g_widen 15 330 (Nat.le_of_ble_eq_true rfl) (Nat.le_of_ble_eq_true rfl) ?_
  refine g_vretW X hr dX2_init_81 hAe ?_
  exact ⟨rfl, fun i => [x, q1, q2, q3, q4, q5, q6, q7, q8, q9, q10, 0, 0, q11, q12, q13, q14, q15].getD i 0, rfl, (wH_f0 D (fun i => [x, q1, q2, q3, q4, q5, q6, q7, q8, q9, q10, 0, 0, q11, q12, q13, q14, q15].getD i 0)).symm⟩

set_option maxHeartbeats 4000000 in
set_option maxRecDepth 100000 in
theorem c_X6_init (l : Launch) (D : DT) (x : Nat) : MW l yX6_init wsX6_init 3 70 23 443 D [.ref x] [(x, .inr (6, [.null, .null, .null, .null, .null]))] (fun v w => v = none ∧ ∃ a : Nat → Nat, a 19 = x ∧ w = [(a 19, .inr (6, [.ref (a 0), .ref (a 18), .ref (a 20), .ref (a 23), .ref (a 25)]))] ++ (wHW D a f0S na0S (fun _ => 0) ++ (wP D a (fun _ => 0) (fun _ => 0) 0 0 0 0 ++ [(a 23, .inr (1, [.ref (a 24), .int (nI 0)])), (a 24, .inl (D.2.2.2.2.1, 7, .inr (.inr (.inr (.inr (fun _ => none)))))), (a 25, .inl (D.2.2.2.2.1, 2, .inr (.inr (.inr (.inr (fun _ => none))))))]))) := by
  refine MW.of (cc := cX6_init) (maxL := 1) (ret := none) (lv := [(0, .ref x)]) (by decide +kernel) rfl (Nat.le_of_ble_eq_true rfl) rfl ?_
  intro p e s m below meth c A hAe hAg X hr hmn
  have hinX20 : ∀ w ∈ wsX20, w ∈ wsX6_init := fun w h => List.mem_cons_of_mem _ (List.mem_append_left _ (List.mem_append_left _ (List.mem_append_left _ (List.mem_append_left _ (List.mem_append_left _ (List.mem_append_left _ (List.mem_append_right _ h)))))))
  have hinX60 : ∀ w ∈ wsX60, w ∈ wsX6_init := fun w h => List.mem_cons_of_mem _ (List.mem_append_left _ (List.mem_append_left _ (List.mem_append_left _ (List.mem_append_left _ (List.mem_append_left _ (List.mem_append_right _ h))))))
  have hinX50 : ∀ w ∈ wsX50, w ∈ wsX6_init := fun w h => List.mem_cons_of_mem _ (List.mem_append_left _ (List.mem_append_left _ (List.mem_append_left _ (List.mem_append_left _ (List.mem_append_right _ h)))))
  have hinX30 : ∀ w ∈ wsX30, w ∈ wsX6_init := fun w h => List.mem_cons_of_mem _ (List.mem_append_left _ (List.mem_append_left _ (List.mem_append_left _ (List.mem_append_right _ h))))
  have hinX10 : ∀ w ∈ wsX10, w ∈ wsX6_init := fun w h => List.mem_cons_of_mem _ (List.mem_append_left _ (List.mem_append_left _ (List.mem_append_right _ h)))
  have hinX40 : ∀ w ∈ wsX40, w ∈ wsX6_init := fun w h => List.mem_cons_of_mem _ (List.mem_append_left _ (List.mem_append_right _ h))
  have hinX00 : ∀ w ∈ wsX00, w ∈ wsX6_init := fun w h => List.mem_cons_of_mem _ (List.mem_append_right _ h)
  have hl12 := List.mem_of_getElem? (l := wsX6_init) (i := 7) rfl
  have hl19 := List.mem_of_getElem? (l := wsX6_init) (i := 11) rfl
  have hl26 := List.mem_of_getElem? (l := wsX6_init) (i := 15) rfl
  have hl33 := List.mem_of_getElem? (l := wsX6_init) (i := 19) rfl
  have hl37 := List.mem_of_getElem? (l := wsX6_init) (i := 20) rfl
  refine g_aload_n X dX6_init_0 rfl 0 rfl rfl ?_
  refine g_objInit X dX6_init_1 (List.mem_of_getElem? (l := wsX6_init) (i := 1) rfl) (List.mem_of_getElem? (l := wsX6_init) (i := 2) rfl) (List.mem_of_getElem? (l := wsX6_init) (i := 3) rfl) ⟨Nat.le_of_ble_eq_true rfl, Nat.le_of_ble_eq_true rfl⟩ (Nat.le_of_ble_eq_true rfl) rfl ?_
  refine g_aload_n X dX6_init_4 rfl 0 rfl rfl ?_
  refine g_new (ci := 2) (fs := [.null, .null, .null, .null, .null, .null, .int 0, .int 0, .int 0, .int 0]) X tyX2 hAg rfl dX6_init_5 hinX20 tyX2_ok (List.mem_of_getElem? (l := wsX6_init) (i := 4) rfl) (List.mem_of_getElem? (l := wsX6_init) (i := 5) rfl) (List.mem_of_getElem? (l := wsX6_init) (i := 6) rfl) rfl (by decide) ⟨Nat.le_of_ble_eq_true rfl, Nat.le_of_ble_eq_true rfl⟩ rfl (fun q1 => ?_)
  refine g_ws (ws' := [(x, .inr (6, [.null, .null, .null, .null, .null])), (q1, .inr (2, [.null, .null, .null, .null, .null, .null, .int 0, .int 0, .int 0, .int 0]))]) rfl ?_
  refine g_dup X dX6_init_8 rfl rfl ?_
  refine g_callIA (n := 0) (As := []) (rest := [_, _]) X hAg rfl (c_X2_init l D q1) gX6_init_X2_init (List.mem_of_getElem? (l := wsX6_init) (i := 6) rfl) (List.mem_of_getElem? (l := wsX6_init) (i := 21) rfl) (List.mem_of_getElem? (l := wsX6_init) (i := 22) rfl) rfl rfl (by decide +kernel) ⟨Nat.le_of_ble_eq_true rfl, Nat.le_of_ble_eq_true rfl⟩ [1] rfl (by decide) rfl rfl (Nat.le_of_ble_eq_true rfl) dX6_init_9 ⟨Nat.le_of_ble_eq_true rfl, Nat.le_of_ble_eq_true rfl⟩ rfl (fun v w hv => ?_)
  obtain ⟨rfl, hb, rfl, rfl⟩ := hv
  refine ⟨(wH D hb f0S na0S).take 1, (wH D hb f0S na0S).drop 1, rfl, rfl, ?_⟩
  refine g_ws (ws' := ([(x, .inr (6, [.null, .null, .null, .null, .null]))] ++ (wH D hb f0S na0S ++ ([] : va_W)))) rfl ?_
  refine g_st (st' := [_, _]) rfl ?_
  refine g_putF X ([(x, .inr (6, [.ref (hb 0), .null, .null, .null, .null]))] ++ (wH D hb f0S na0S ++ ([] : va_W))) rfl dX6_init_12 hinX60 tyX6_ok nmX6 rfl 0 rfl 0 (by decide) hl12 rfl hmn rfl (ty := tyX6 0) (by decide +kernel) rfl rfl (Nat.le_of_ble_eq_true rfl) rfl rfl ?_
  refine g_aload_n X dX6_init_15 rfl 0 rfl rfl ?_
  refine g_new (ci := 5) (fs := [.int 0, .int 0]) X tyX5 hAg rfl dX6_init_16 hinX50 tyX5_ok (List.mem_of_getElem? (l := wsX6_init) (i := 8) rfl) (List.mem_of_getElem? (l := wsX6_init) (i := 9) rfl) (List.mem_of_getElem? (l := wsX6_init) (i := 10) rfl) rfl (by decide) ⟨Nat.le_of_ble_eq_true rfl, Nat.le_of_ble_eq_true rfl⟩ rfl (fun q2 => ?_)
  refine g_ws (ws' := ([(x, .inr (6, [.ref (hb 0), .null, .null, .null, .null]))] ++ (wH D hb f0S na0S ++ [(q2, .inr (5, [.int 0, .int 0]))]))) rfl ?_
  refine g_dup X dX6_init_19 rfl rfl ?_
  refine g_callINA (n := 0) (As := []) (rest := [_, _]) X hAg rfl (c_X5_init l D q2) gX6_init_X5_init_n18 (List.mem_of_getElem? (l := wsX6_init) (i := 10) rfl) (by decide +kernel) (List.mem_of_getElem? (l := wsX6_init) (i := 63) rfl) rfl rfl (by decide +kernel) ⟨Nat.le_of_ble_eq_true rfl, Nat.le_of_ble_eq_true rfl⟩ [17] rfl (by decide) rfl rfl (Nat.le_of_ble_eq_true rfl) dX6_init_20 ⟨Nat.le_of_ble_eq_true rfl, Nat.le_of_ble_eq_true rfl⟩ rfl (fun v w hv => ?_)
  obtain ⟨rfl, rfl⟩ := hv
  refine ⟨[_], _, rfl, rfl, ?_⟩
  refine g_ws (ws' := ([(x, .inr (6, [.ref (hb 0), .null, .null, .null, .null]))] ++ (wH D hb f0S na0S ++ [(q2, .inr (5, [.int 0, .int 0]))]))) rfl ?_
  refine g_st (st' := [_, _]) rfl ?_
  refine g_putF X ([(x, .inr (6, [.ref (hb 0), .ref q2, .null, .null, .null]))] ++ (wH D hb f0S na0S ++ [(q2, .inr (5, [.int 0, .int 0]))])) rfl dX6_init_23 hinX60 tyX6_ok nmX6 rfl 0 rfl 1 (by decide) hl19 rfl hmn rfl (ty := tyX6 1) (by decide +kernel) rfl rfl (Nat.le_of_ble_eq_true rfl) rfl rfl ?_
  refine g_aload_n X dX6_init_26 rfl 0 rfl rfl ?_
  refine g_new (ci := 3) (fs := [.null, .null, .int 0, .int 0, .int 0, .int 0]) X tyX3 hAg rfl dX6_init_27 hinX30 tyX3_ok (List.mem_of_getElem? (l := wsX6_init) (i := 12) rfl) (List.mem_of_getElem? (l := wsX6_init) (i := 13) rfl) (List.mem_of_getElem? (l := wsX6_init) (i := 14) rfl) rfl (by decide) ⟨Nat.le_of_ble_eq_true rfl, Nat.le_of_ble_eq_true rfl⟩ rfl (fun q3 => ?_)
  refine g_ws (ws' := ([(x, .inr (6, [.ref (hb 0), .ref q2, .null, .null, .null]))] ++ (wH D hb f0S na0S ++ [(q2, .inr (5, [.int 0, .int 0])), (q3, .inr (3, [.null, .null, .int 0, .int 0, .int 0, .int 0]))]))) rfl ?_
  refine g_dup X dX6_init_30 rfl rfl ?_
  refine g_callINA (n := 0) (As := []) (rest := [_, _]) X hAg rfl (c_X3_init l D q3) gX6_init_X3_init_n25 (List.mem_of_getElem? (l := wsX6_init) (i := 14) rfl) (by decide +kernel) (List.mem_of_getElem? (l := wsX6_init) (i := 66) rfl) rfl rfl (by decide +kernel) ⟨Nat.le_of_ble_eq_true rfl, Nat.le_of_ble_eq_true rfl⟩ [18] rfl (by decide) rfl rfl (Nat.le_of_ble_eq_true rfl) dX6_init_31 ⟨Nat.le_of_ble_eq_true rfl, Nat.le_of_ble_eq_true rfl⟩ rfl (fun v w hv => ?_)
  obtain ⟨rfl, q4, q5, rfl⟩ := hv
  refine ⟨[_], _, rfl, rfl, ?_⟩
  refine g_ws (ws' := ([(x, .inr (6, [.ref (hb 0), .ref q2, .null, .null, .null]))] ++ (wH D hb f0S na0S ++ [(q2, .inr (5, [.int 0, .int 0])), (q3, .inr (3, [.ref q4, .ref q5, .int 0, .int 0, .int 0, .int 0])), (q4, .inl (D.2.2.2.1, 80, .inl (fun _ => 0))), (q5, .inl (D.2.1, 4, .inl (fun _ => 0)))]))) rfl ?_
  refine g_st (st' := [_, _]) rfl ?_
  refine g_putF X ([(x, .inr (6, [.ref (hb 0), .ref q2, .ref q3, .null, .null]))] ++ (wH D hb f0S na0S ++ [(q2, .inr (5, [.int 0, .int 0])), (q3, .inr (3, [.ref q4, .ref q5, .int 0, .int 0, .int 0, .int 0])), (q4, .inl (D.2.2.2.1, 80, .inl (fun _ => 0))), (q5, .inl (D.2.1, 4, .inl (fun _ => 0)))])) rfl dX6_init_34 hinX60 tyX6_ok nmX6 rfl 0 rfl 2 (by decide) hl26 rfl hmn rfl (ty := tyX6 2) (by decide +kernel) rfl rfl (Nat.le_of_ble_eq_true rfl) rfl rfl ?_
  refine g_aload_n X dX6_init_37 rfl 0 rfl rfl ?_
  refine g_new (ci := 1) (fs := [.null, .int 0]) X tyX1 hAg rfl dX6_init_38 hinX10 tyX1_ok (List.mem_of_getElem? (l := wsX6_init) (i := 16) rfl) (List.mem_of_getElem? (l := wsX6_init) (i := 17) rfl) (List.mem_of_getElem? (l := wsX6_init) (i := 18) rfl) rfl (by decide) ⟨Nat.le_of_ble_eq_true rfl, Nat.le_of_ble_eq_true rfl⟩ rfl (fun q6 => ?_)
  refine g_ws (ws' := ([(x, .inr (6, [.ref (hb 0), .ref q2, .ref q3, .null, .null]))] ++ (wH D hb f0S na0S ++ [(q2, .inr (5, [.int 0, .int 0])), (q3, .inr (3, [.ref q4, .ref q5, .int 0, .int 0, .int 0, .int 0])), (q4, .inl (D.2.2.2.1, 80, .inl (fun _ => 0))), (q5, .inl (D.2.1, 4, .inl (fun _ => 0))), (q6, .inr (1, [.null, .int 0]))]))) rfl ?_
  refine g_dup X dX6_init_41 rfl rfl ?_
  refine g_callINA (n := 0) (As := []) (rest := [_, _]) X hAg rfl (c_X1_init l D q6) gX6_init_X1_init_n32 (List.mem_of_getElem? (l := wsX6_init) (i := 18) rfl) (by decide +kernel) (List.mem_of_getElem? (l := wsX6_init) (i := 72) rfl) rfl rfl (by decide +kernel) ⟨Nat.le_of_ble_eq_true rfl, Nat.le_of_ble_eq_true rfl⟩ [21] rfl (by decide) rfl rfl (Nat.le_of_ble_eq_true rfl) dX6_init_42 ⟨Nat.le_of_ble_eq_true rfl, Nat.le_of_ble_eq_true rfl⟩ rfl (fun v w hv => ?_)
  obtain ⟨rfl, q7, rfl⟩ := hv
  refine ⟨[_], _, rfl, rfl, ?_⟩
  refine g_ws (ws' := ([(x, .inr (6, [.ref (hb 0), .ref q2, .ref q3, .null, .null]))] ++ (wH D hb f0S na0S ++ [(q2, .inr (5, [.int 0, .int 0])), (q3, .inr (3, [.ref q4, .ref q5, .int 0, .int 0, .int 0, .int 0])), (q4, .inl (D.2.2.2.1, 80, .inl (fun _ => 0))), (q5, .inl (D.2.1, 4, .inl (fun _ => 0))), (q6, .inr (1, [.ref q7, .int 0])), (q7, .inl (D.2.2.2.2.1, 7, .inr (.inr (.inr (.inr (fun _ => none))))))]))) rfl ?_
  refine g_st (st' := [_, _]) rfl ?_
  refine g_putF X ([(x, .inr (6, [.ref (hb 0), .ref q2, .ref q3, .ref q6, .null]))] ++ (wH D hb f0S na0S ++ [(q2, .inr (5, [.int 0, .int 0])), (q3, .inr (3, [.ref q4, .ref q5, .int 0, .int 0, .int 0, .int 0])), (q4, .inl (D.2.2.2.1, 80, .inl (fun _ => 0))), (q5, .inl (D.2.1, 4, .inl (fun _ => 0))), (q6, .inr (1, [.ref q7, .int 0])), (q7, .inl (D.2.2.2.2.1, 7, .inr (.inr (.inr (.inr (fun _ => none))))))])) rfl dX6_init_45 hinX60 tyX6_ok nmX6 rfl 0 rfl 3 (by decide) hl33 rfl hmn rfl (ty := tyX6 3) (by decide +kernel) rfl rfl (Nat.le_of_ble_eq_true rfl) rfl rfl ?_
  refine g_aload_n X dX6_init_48 rfl 0 rfl rfl ?_
  refine g_iconst (v := (2 : Int32)) X dX6_init_49 (by decide) rfl ?_
  refine g_newq (N := 2) X hAg rfl dX6_init_50 (List.mem_of_getElem? (l := wsX6_init) (i := 4) rfl) rfl (Nat.le_of_ble_eq_true rfl) ⟨Nat.le_of_ble_eq_true rfl, Nat.le_of_ble_eq_true rfl⟩ rfl (fun q8 => ?_)
  refine g_ws (ws' := ([(x, .inr (6, [.ref (hb 0), .ref q2, .ref q3, .ref q6, .null]))] ++ (wH D hb f0S na0S ++ [(q2, .inr (5, [.int 0, .int 0])), (q3, .inr (3, [.ref q4, .ref q5, .int 0, .int 0, .int 0, .int 0])), (q4, .inl (D.2.2.2.1, 80, .inl (fun _ => 0))), (q5, .inl (D.2.1, 4, .inl (fun _ => 0))), (q6, .inr (1, [.ref q7, .int 0])), (q7, .inl (D.2.2.2.2.1, 7, .inr (.inr (.inr (.inr (fun _ => none)))))), (q8, .inl (D.2.2.2.2.1, 2, .inr (.inr (.inr (.inr (fun _ => none))))))]))) rfl ?_
  refine g_putF X ([(x, .inr (6, [.ref (hb 0), .ref q2, .ref q3, .ref q6, .ref q8]))] ++ (wH D hb f0S na0S ++ [(q2, .inr (5, [.int 0, .int 0])), (q3, .inr (3, [.ref q4, .ref q5, .int 0, .int 0, .int 0, .int 0])), (q4, .inl (D.2.2.2.1, 80, .inl (fun _ => 0))), (q5, .inl (D.2.1, 4, .inl (fun _ => 0))), (q6, .inr (1, [.ref q7, .int 0])), (q7, .inl (D.2.2.2.2.1, 7, .inr (.inr (.inr (.inr (fun _ => none)))))), (q8, .inl (D.2.2.2.2.1, 2, .inr (.inr (.inr (.inr (fun _ => none))))))])) rfl dX6_init_53 hinX60 tyX6_ok nmX6 rfl 0 rfl 4 (by decide) hl37 rfl hmn rfl (ty := tyX6 4) (by decide +kernel) rfl rfl (Nat.le_of_ble_eq_true rfl) rfl rfl ?_
  refine g_widen 23 443 (Nat.le_of_ble_eq_true rfl) (Nat.le_of_ble_eq_true rfl) ?_
  refine g_vretW X hr dX6_init_56 hAe ?_
  exact ⟨rfl, fun i => bif Nat.ble 18 i then [q2, x, q3, q4, q5, q6, q7, q8].getD (i - 18) 0 else hb i, rfl, rfl⟩
