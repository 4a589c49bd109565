set_option maxHeartbeats 4000000 in
set_option maxRecDepth 100000 in
theorem c_X7_whoCan (l : Launch) (D : DT) (a : Nat → Nat) (fa fp fs fv fg fw fd ft fn : Nat → Int32) (p1 pm wk dm sp iw od : Int32) (mk : Nat) (hmk : fa 76 = nI mk) (h40 : mk ≤ 40) (hst : ∀ s, s < mk → stOK fa s) (G : Nat → Bool) (hG : ∀ s, s < mk → fg s = b2i (G s)) (pq : Nat) (hpq : pq < 12) (rt : Int32) : MR l yX7_whoCan wsX7_whoCan 1 22 D [.ref (a 0), .int (nI pq), .int rt] (wM D a fa fp fs fv fg fw fd ft fn p1 pm wk dm sp iw od) (fun v => v = some (.int (whI fa G pq rt mk))) := by
  refine MR.of (cc := cX7_whoCan) (maxL := 5) (ret := (some .int)) (lv := [(0, .ref (a 0)), (1, .int (nI pq)), (2, .int rt)]) (by decide +kernel) rfl (Nat.le_of_ble_eq_true rfl) rfl ?_
  intro p e s m below meth c A X hr hmn
  have hinX70 : ∀ w ∈ wsX70, w ∈ wsX7_whoCan := fun w h => List.mem_cons_of_mem _ (List.mem_append_right _ h)
  have hl7 := List.mem_of_getElem? (l := wsX7_whoCan) (i := 1) rfl
  have hl23 := List.mem_of_getElem? (l := wsX7_whoCan) (i := 2) rfl
  refine g_aload_n X dX7_whoCan_0 rfl 0 rfl rfl ?_
  refine gM_get_at X dX7_whoCan_1 hinX70 hl7 rfl ?_
  refine g_iconst (v := (4 : Int32)) X dX7_whoCan_4 (by decide) rfl ?_
  refine g_iload_n X dX7_whoCan_5 rfl 1 rfl rfl ?_
  refine g_iadd X dX7_whoCan_6 rfl ?_
  refine g_topi (y := nI (4 + pq)) (nI_add (4) (pq)) ?_
  refine gM_ld_at X dX7_whoCan_7 (by first | rfl | assumption) (by omega) rfl ?_
  refine g_if_ge X dX7_whoCan_8 15 (by decide) rfl (fun h8 => ?_) (fun h8 => ?_)
  · have i8 : (0 : Int) ≤ _ := ic_le h8
    refine g_iconst (v := (1 : Int32)) X dX7_whoCan_15 (by decide) rfl ?_
    refine g_aload_n X dX7_whoCan_16 rfl 0 rfl rfl ?_
    refine gM_get_at X dX7_whoCan_17 hinX70 hl7 rfl ?_
    refine g_iconst (v := (4 : Int32)) X dX7_whoCan_20 (by decide) rfl ?_
    refine g_iload_n X dX7_whoCan_21 rfl 1 rfl rfl ?_
    refine g_iadd X dX7_whoCan_22 rfl ?_
    refine g_topi (y := nI (4 + pq)) (nI_add (4) (pq)) ?_
    refine gM_ld_at X dX7_whoCan_23 (by first | rfl | assumption) (by omega) rfl ?_
    refine g_ishl X dX7_whoCan_24 rfl ?_
    refine g_istore_n X [(3, _), (0, _), (1, _), (2, _)] dX7_whoCan_25 rfl (by decide) rfl rfl ?_
    refine g_iconst (v := (0 : Int32)) X dX7_whoCan_26 (by decide) rfl ?_
    refine g_istore X [(4, _), (3, _), (0, _), (1, _), (2, _)] dX7_whoCan_27 (by decide) rfl rfl ?_
    have L29 : ∀ (n i : Nat) (x : Int32) (hi : i ≤ mk) (hn : mk - i = n) (hx : x = whI fa G pq rt i), GG p l e (wRoom 1 22 0 0) s m ([.ref (a 0), .int (nI pq), .int rt] : List Value).toArray below meth c D A 5 true 0 0 (MQ below (roQ (fun v => v = some (.int (whI fa G pq rt mk)))) ([.ref (a 0), .int (nI pq), .int rt] : List Value).toArray s 0 0 (fun _ => False)) (wM D a fa fp fs fv fg fw fd ft fn p1 pm wk dm sp iw od) 29 [(4, .int (nI i)), (3, .int x), (0, .ref (a 0)), (1, .int (nI pq)), (2, .int rt)] [] := by
      intro n
      induction n using Nat.strongRecOn with
      | _ n ih =>
      intro i x hi hn hx
      refine g_iload X dX7_whoCan_29 0 rfl rfl ?_
      refine g_aload_n X dX7_whoCan_31 rfl 2 rfl rfl ?_
      refine gM_get_at X dX7_whoCan_32 hinX70 hl7 rfl ?_
      refine g_bipush (v := (76 : Int32)) X dX7_whoCan_35 (by decide) rfl ?_
      refine gM_ld_at X dX7_whoCan_37 (k := 76) rfl (by decide) rfl ?_
      refine g_topi (hmk) ?_
      refine g_icmp_ge X dX7_whoCan_38 96 (by decide) rfl (fun h38 => ?_) (fun h38 => ?_)
      · have i38 := nj_le (a := mk) (b := i) (by omega) (by omega) h38
        have hii : i = mk := by omega
        subst hii
        refine g_iload_n X dX7_whoCan_96 rfl 1 rfl rfl ?_
        refine g_retR X hr (by first | rfl | exact b2i_nar _) dX7_whoCan_97 ?_
        exact congrArg (fun x => some (Value.int x)) hx
      · have i38 := nj_nle (a := mk) (b := i) (by omega) (by omega) h38
        refine g_iload_n X dX7_whoCan_41 rfl 1 rfl rfl ?_
        refine g_aload_n X dX7_whoCan_42 rfl 2 rfl rfl ?_
        refine gM_get_good X dX7_whoCan_43 hinX70 hl23 rfl ?_
        refine g_iload X dX7_whoCan_46 0 rfl rfl ?_
        refine gM_ld_good X dX7_whoCan_48 (by first | rfl | assumption) (by omega) rfl ?_
        refine g_topi (hG i (by omega)) ?_
        refine g_if_eq X dX7_whoCan_49 87 (by decide) rfl (fun h49 => ?_) (fun h49 => ?_)
        · replace h49 := b2i_0 h49
          refine g_iconst (v := (0 : Int32)) X dX7_whoCan_87 (by decide) rfl ?_
          refine g_ior X dX7_whoCan_88 rfl ?_
          refine g_istore_n X [(3, _), (4, _), (0, _), (1, _), (2, _)] dX7_whoCan_89 rfl (by decide) rfl rfl ?_
          refine g_iinc (v := nI (i + 1)) X [(4, _), (3, _), (0, _), (1, _), (2, _)] dX7_whoCan_90 1 rfl (nI_add (i) 1) (by decide) rfl rfl ?_
          refine g_goto X dX7_whoCan_93 29 (by decide) ?_
          exact ih (mk - (i + 1)) (by omega) (i + 1) _ (by omega) rfl (by rw [hx, whI]; simp [*])
        · replace h49 := b2i_n0 h49
          refine g_aload_n X dX7_whoCan_52 rfl 2 rfl rfl ?_
          refine g_iload X dX7_whoCan_53 0 rfl rfl ?_
          refine g_iconst (v := (0 : Int32)) X dX7_whoCan_55 (by decide) rfl ?_
          refine g_callVRs (n := 2) (As := [_, _]) (rest := [_]) X (c_X7_of l D _ _ _ _ _ _ _ _ _ _ _ _ _ _ _ _ _  (i) (0) (by omega) (by omega)) gX7_whoCan_X7_of rfl (by decide +kernel) ⟨Nat.le_of_ble_eq_true rfl, Nat.le_of_ble_eq_true rfl⟩ rfl rfl  rfl rfl (Nat.le_of_ble_eq_true rfl) dX7_whoCan_56 ⟨Nat.le_of_ble_eq_true rfl, Nat.le_of_ble_eq_true rfl⟩ rfl (fun v hv => ?_)
          obtain rfl := hv
          refine g_st (st' := [_, _]) rfl ?_
          refine g_iload_n X dX7_whoCan_59 rfl 3 rfl rfl ?_
          refine g_icmp_ne X dX7_whoCan_60 87 (by decide) rfl (fun h60 => ?_) (fun h60 => ?_)
          · refine g_iconst (v := (0 : Int32)) X dX7_whoCan_87 (by decide) rfl ?_
            refine g_ior X dX7_whoCan_88 rfl ?_
            refine g_istore_n X [(3, _), (4, _), (0, _), (1, _), (2, _)] dX7_whoCan_89 rfl (by decide) rfl rfl ?_
            refine g_iinc (v := nI (i + 1)) X [(4, _), (3, _), (0, _), (1, _), (2, _)] dX7_whoCan_90 1 rfl (nI_add (i) 1) (by decide) rfl rfl ?_
            refine g_goto X dX7_whoCan_93 29 (by decide) ?_
            exact ih (mk - (i + 1)) (by omega) (i + 1) _ (by omega) rfl (by rw [hx, whI]; simp [*])
          · refine g_aload_n X dX7_whoCan_63 rfl 2 rfl rfl ?_
            refine g_iload X dX7_whoCan_64 0 rfl rfl ?_
            refine g_iconst (v := (3 : Int32)) X dX7_whoCan_66 (by decide) rfl ?_
            refine g_callVRs (n := 2) (As := [_, _]) (rest := [_]) X (c_X7_of l D _ _ _ _ _ _ _ _ _ _ _ _ _ _ _ _ _  (i) (3) (by omega) (by omega)) gX7_whoCan_X7_of rfl (by decide +kernel) ⟨Nat.le_of_ble_eq_true rfl, Nat.le_of_ble_eq_true rfl⟩ rfl rfl  rfl rfl (Nat.le_of_ble_eq_true rfl) dX7_whoCan_67 ⟨Nat.le_of_ble_eq_true rfl, Nat.le_of_ble_eq_true rfl⟩ rfl (fun v hv => ?_)
            obtain rfl := hv
            refine g_st (st' := [_, _]) rfl ?_
            refine g_iload_n X dX7_whoCan_70 rfl 4 rfl rfl ?_
            refine g_iand X dX7_whoCan_71 rfl ?_
            refine g_if_eq X dX7_whoCan_72 87 (by decide) rfl (fun h72 => ?_) (fun h72 => ?_)
            · refine g_iconst (v := (0 : Int32)) X dX7_whoCan_87 (by decide) rfl ?_
              refine g_ior X dX7_whoCan_88 rfl ?_
              refine g_istore_n X [(3, _), (4, _), (0, _), (1, _), (2, _)] dX7_whoCan_89 rfl (by decide) rfl rfl ?_
              refine g_iinc (v := nI (i + 1)) X [(4, _), (3, _), (0, _), (1, _), (2, _)] dX7_whoCan_90 1 rfl (nI_add (i) 1) (by decide) rfl rfl ?_
              refine g_goto X dX7_whoCan_93 29 (by decide) ?_
              exact ih (mk - (i + 1)) (by omega) (i + 1) _ (by omega) rfl (by rw [hx, whI]; simp [*])
            · refine g_iconst (v := (1 : Int32)) X dX7_whoCan_75 (by decide) rfl ?_
              refine g_aload_n X dX7_whoCan_76 rfl 2 rfl rfl ?_
              refine g_iload X dX7_whoCan_77 0 rfl rfl ?_
              refine g_iconst (v := (2 : Int32)) X dX7_whoCan_79 (by decide) rfl ?_
              refine g_callVRs (n := 2) (As := [_, _]) (rest := [_, _]) X (c_X7_of l D _ _ _ _ _ _ _ _ _ _ _ _ _ _ _ _ _  (i) (2) (by omega) (by omega)) gX7_whoCan_X7_of rfl (by decide +kernel) ⟨Nat.le_of_ble_eq_true rfl, Nat.le_of_ble_eq_true rfl⟩ rfl rfl  rfl rfl (Nat.le_of_ble_eq_true rfl) dX7_whoCan_80 ⟨Nat.le_of_ble_eq_true rfl, Nat.le_of_ble_eq_true rfl⟩ rfl (fun v hv => ?_)
              obtain rfl := hv
              refine g_st (st' := [_, _, _]) rfl ?_
              refine g_ishl X dX7_whoCan_83 rfl ?_
              refine g_goto X dX7_whoCan_84 88 (by decide) ?_
              refine g_ior X dX7_whoCan_88 rfl ?_
              refine g_istore_n X [(3, _), (4, _), (0, _), (1, _), (2, _)] dX7_whoCan_89 rfl (by decide) rfl rfl ?_
              refine g_iinc (v := nI (i + 1)) X [(4, _), (3, _), (0, _), (1, _), (2, _)] dX7_whoCan_90 1 rfl (nI_add (i) 1) (by decide) rfl rfl ?_
              refine g_goto X dX7_whoCan_93 29 (by decide) ?_
              exact ih (mk - (i + 1)) (by omega) (i + 1) _ (by omega) rfl (by rw [hx, whI]; simp [*])
    exact L29 mk 0 _ (by omega) (by omega) (by rw [whI, whO]; first | rw [if_neg (Int32.not_lt.mpr h8)] | rw [if_pos (Int32.not_le.mp h8)])
  · have i8 : _ < (0 : Int) := ic_nle h8
    refine g_iconst (v := (0 : Int32)) X dX7_whoCan_11 (by decide) rfl ?_
    refine g_goto X dX7_whoCan_12 25 (by decide) ?_
    refine g_istore_n X [(3, _), (0, _), (1, _), (2, _)] dX7_whoCan_25 rfl (by decide) rfl rfl ?_
    refine g_iconst (v := (0 : Int32)) X dX7_whoCan_26 (by decide) rfl ?_
    refine g_istore X [(4, _), (3, _), (0, _), (1, _), (2, _)] dX7_whoCan_27 (by decide) rfl rfl ?_
    have L29 : ∀ (n i : Nat) (x : Int32) (hi : i ≤ mk) (hn : mk - i = n) (hx : x = whI fa G pq rt i), GG p l e (wRoom 1 22 0 0) s m ([.ref (a 0), .int (nI pq), .int rt] : List Value).toArray below meth c D A 5 true 0 0 (MQ below (roQ (fun v => v = some (.int (whI fa G pq rt mk)))) ([.ref (a 0), .int (nI pq), .int rt] : List Value).toArray s 0 0 (fun _ => False)) (wM D a fa fp fs fv fg fw fd ft fn p1 pm wk dm sp iw od) 29 [(4, .int (nI i)), (3, .int x), (0, .ref (a 0)), (1, .int (nI pq)), (2, .int rt)] [] := by
      intro n
      induction n using Nat.strongRecOn with
      | _ n ih =>
      intro i x hi hn hx
      refine g_iload X dX7_whoCan_29 0 rfl rfl ?_
      refine g_aload_n X dX7_whoCan_31 rfl 2 rfl rfl ?_
      refine gM_get_at X dX7_whoCan_32 hinX70 hl7 rfl ?_
      refine g_bipush (v := (76 : Int32)) X dX7_whoCan_35 (by decide) rfl ?_
      refine gM_ld_at X dX7_whoCan_37 (k := 76) rfl (by decide) rfl ?_
      refine g_topi (hmk) ?_
      refine g_icmp_ge X dX7_whoCan_38 96 (by decide) rfl (fun h38 => ?_) (fun h38 => ?_)
      · have i38 := nj_le (a := mk) (b := i) (by omega) (by omega) h38
        have hii : i = mk := by omega
        subst hii
        refine g_iload_n X dX7_whoCan_96 rfl 1 rfl rfl ?_
        refine g_retR X hr (by first | rfl | exact b2i_nar _) dX7_whoCan_97 ?_
        exact congrArg (fun x => some (Value.int x)) hx
      · have i38 := nj_nle (a := mk) (b := i) (by omega) (by omega) h38
        refine g_iload_n X dX7_whoCan_41 rfl 1 rfl rfl ?_
        refine g_aload_n X dX7_whoCan_42 rfl 2 rfl rfl ?_
        refine gM_get_good X dX7_whoCan_43 hinX70 hl23 rfl ?_
        refine g_iload X dX7_whoCan_46 0 rfl rfl ?_
        refine gM_ld_good X dX7_whoCan_48 (by first | rfl | assumption) (by omega) rfl ?_
        refine g_topi (hG i (by omega)) ?_
        refine g_if_eq X dX7_whoCan_49 87 (by decide) rfl (fun h49 => ?_) (fun h49 => ?_)
        · replace h49 := b2i_0 h49
          refine g_iconst (v := (0 : Int32)) X dX7_whoCan_87 (by decide) rfl ?_
          refine g_ior X dX7_whoCan_88 rfl ?_
          refine g_istore_n X [(3, _), (4, _), (0, _), (1, _), (2, _)] dX7_whoCan_89 rfl (by decide) rfl rfl ?_
          refine g_iinc (v := nI (i + 1)) X [(4, _), (3, _), (0, _), (1, _), (2, _)] dX7_whoCan_90 1 rfl (nI_add (i) 1) (by decide) rfl rfl ?_
          refine g_goto X dX7_whoCan_93 29 (by decide) ?_
          exact ih (mk - (i + 1)) (by omega) (i + 1) _ (by omega) rfl (by rw [hx, whI]; simp [*])
        · replace h49 := b2i_n0 h49
          refine g_aload_n X dX7_whoCan_52 rfl 2 rfl rfl ?_
          refine g_iload X dX7_whoCan_53 0 rfl rfl ?_
          refine g_iconst (v := (0 : Int32)) X dX7_whoCan_55 (by decide) rfl ?_
          refine g_callVRs (n := 2) (As := [_, _]) (rest := [_]) X (c_X7_of l D _ _ _ _ _ _ _ _ _ _ _ _ _ _ _ _ _  (i) (0) (by omega) (by omega)) gX7_whoCan_X7_of rfl (by decide +kernel) ⟨Nat.le_of_ble_eq_true rfl, Nat.le_of_ble_eq_true rfl⟩ rfl rfl  rfl rfl (Nat.le_of_ble_eq_true rfl) dX7_whoCan_56 ⟨Nat.le_of_ble_eq_true rfl, Nat.le_of_ble_eq_true rfl⟩ rfl (fun v hv => ?_)
          obtain rfl := hv
          refine g_st (st' := [_, _]) rfl ?_
          refine g_iload_n X dX7_whoCan_59 rfl 3 rfl rfl ?_
          refine g_icmp_ne X dX7_whoCan_60 87 (by decide) rfl (fun h60 => ?_) (fun h60 => ?_)
          · refine g_iconst (v := (0 : Int32)) X dX7_whoCan_87 (by decide) rfl ?_
            refine g_ior X dX7_whoCan_88 rfl ?_
            refine g_istore_n X [(3, _), (4, _), (0, _), (1, _), (2, _)] dX7_whoCan_89 rfl (by decide) rfl rfl ?_
            refine g_iinc (v := nI (i + 1)) X [(4, _), (3, _), (0, _), (1, _), (2, _)] dX7_whoCan_90 1 rfl (nI_add (i) 1) (by decide) rfl rfl ?_
            refine g_goto X dX7_whoCan_93 29 (by decide) ?_
            exact ih (mk - (i + 1)) (by omega) (i + 1) _ (by omega) rfl (by rw [hx, whI]; simp [*])
          · refine g_aload_n X dX7_whoCan_63 rfl 2 rfl rfl ?_
            refine g_iload X dX7_whoCan_64 0 rfl rfl ?_
            refine g_iconst (v := (3 : Int32)) X dX7_whoCan_66 (by decide) rfl ?_
            refine g_callVRs (n := 2) (As := [_, _]) (rest := [_]) X (c_X7_of l D _ _ _ _ _ _ _ _ _ _ _ _ _ _ _ _ _  (i) (3) (by omega) (by omega)) gX7_whoCan_X7_of rfl (by decide +kernel) ⟨Nat.le_of_ble_eq_true rfl, Nat.le_of_ble_eq_true rfl⟩ rfl rfl  rfl rfl (Nat.le_of_ble_eq_true rfl) dX7_whoCan_67 ⟨Nat.le_of_ble_eq_true rfl, Nat.le_of_ble_eq_true rfl⟩ rfl (fun v hv => ?_)
            obtain rfl := hv
            refine g_st (st' := [_, _]) rfl ?_
            refine g_iload_n X dX7_whoCan_70 rfl 4 rfl rfl ?_
            refine g_iand X dX7_whoCan_71 rfl ?_
            refine g_if_eq X dX7_whoCan_72 87 (by decide) rfl (fun h72 => ?_) (fun h72 => ?_)
            · refine g_iconst (v := (0 : Int32)) X dX7_whoCan_87 (by decide) rfl ?_
              refine g_ior X dX7_whoCan_88 rfl ?_
              refine g_istore_n X [(3, _), (4, _), (0, _), (1, _), (2, _)] dX7_whoCan_89 rfl (by decide) rfl rfl ?_
              refine g_iinc (v := nI (i + 1)) X [(4, _), (3, _), (0, _), (1, _), (2, _)] dX7_whoCan_90 1 rfl (nI_add (i) 1) (by decide) rfl rfl ?_
              refine g_goto X dX7_whoCan_93 29 (by decide) ?_
              exact ih (mk - (i + 1)) (by omega) (i + 1) _ (by omega) rfl (by rw [hx, whI]; simp [*])
            · refine g_iconst (v := (1 : Int32)) X dX7_whoCan_75 (by decide) rfl ?_
              refine g_aload_n X dX7_whoCan_76 rfl 2 rfl rfl ?_
              refine g_iload X dX7_whoCan_77 0 rfl rfl ?_
              refine g_iconst (v := (2 : Int32)) X dX7_whoCan_79 (by decide) rfl ?_
              refine g_callVRs (n := 2) (As := [_, _]) (rest := [_, _]) X (c_X7_of l D _ _ _ _ _ _ _ _ _ _ _ _ _ _ _ _ _  (i) (2) (by omega) (by omega)) gX7_whoCan_X7_of rfl (by decide +kernel) ⟨Nat.le_of_ble_eq_true rfl, Nat.le_of_ble_eq_true rfl⟩ rfl rfl  rfl rfl (Nat.le_of_ble_eq_true rfl) dX7_whoCan_80 ⟨Nat.le_of_ble_eq_true rfl, Nat.le_of_ble_eq_true rfl⟩ rfl (fun v hv => ?_)
              obtain rfl := hv
              refine g_st (st' := [_, _, _]) rfl ?_
              refine g_ishl X dX7_whoCan_83 rfl ?_
              refine g_goto X dX7_whoCan_84 88 (by decide) ?_
              refine g_ior X dX7_whoCan_88 rfl ?_
              refine g_istore_n X [(3, _), (4, _), (0, _), (1, _), (2, _)] dX7_whoCan_89 rfl (by decide) rfl rfl ?_
              refine g_iinc (v := nI (i + 1)) X [(4, _), (3, _), (0, _), (1, _), (2, _)] dX7_whoCan_90 1 rfl (nI_add (i) 1) (by decide) rfl rfl ?_
              refine g_goto X dX7_whoCan_93 29 (by decide) ?_
              exact ih (mk - (i + 1)) (by omega) (i + 1) _ (by omega) rfl (by rw [hx, whI]; simp [*])
    exact L29 mk 0 _ (by omega) (by omega) (by rw [whI, whO]; first | rw [if_neg (Int32.not_lt.mpr h8)] | rw [if_pos (Int32.not_le.mp h8)])

set_option maxHeartbeats 4000000 in
set_option maxRecDepth 100000 in
theorem c_X7_goodStamps (l : Launch) (D : DT) (a : Nat → Nat) (fa fp fs fv fg fw fd ft fn : Nat → Int32) (p1 pm wk dm sp iw od : Int32) (mk : Nat) (hmk : fa 76 = nI mk) (h40 : mk ≤ 40) (hst : ∀ s, s < mk → stOK fa s) (G : Nat → Bool) (hG : ∀ s, s < mk → fg s = b2i (G s)) (pg : Int32) : MR l yX7_goodStamps wsX7_goodStamps 1 22 D [.ref (a 0), .int pg] (wM D a fa fp fs fv fg fw fd ft fn p1 pm wk dm sp iw od) (fun v => v = some (.int (nI (cnI (fun s => G s && (decide (pg < 0) || decide (ofM fa s 0 = pg))) mk)))) := by
  refine MR.of (cc := cX7_goodStamps) (maxL := 4) (ret := (some .int)) (lv := [(0, .ref (a 0)), (1, .int pg)]) (by decide +kernel) rfl (Nat.le_of_ble_eq_true rfl) rfl ?_
  intro p e s m below meth c A X hr hmn
  have hinX70 : ∀ w ∈ wsX70, w ∈ wsX7_goodStamps := fun w h => List.mem_cons_of_mem _ (List.mem_append_right _ h)
  have hl7 := List.mem_of_getElem? (l := wsX7_goodStamps) (i := 1) rfl
  have hl23 := List.mem_of_getElem? (l := wsX7_goodStamps) (i := 2) rfl
  refine g_iconst (v := (0 : Int32)) X dX7_goodStamps_0 (by decide) rfl ?_
  refine g_istore_n X [(2, _), (0, _), (1, _)] dX7_goodStamps_1 rfl (by decide) rfl rfl ?_
  refine g_iconst (v := (0 : Int32)) X dX7_goodStamps_2 (by decide) rfl ?_
  refine g_istore_n X [(3, _), (2, _), (0, _), (1, _)] dX7_goodStamps_3 rfl (by decide) rfl rfl ?_
  have L4 : ∀ (n i k : Nat) (hi : i ≤ mk) (hn : mk - i = n) (hk : k ≤ i) (hx : k = cnI (fun s => G s && (decide (pg < 0) || decide (ofM fa s 0 = pg))) i), GG p l e (wRoom 1 22 0 0) s m ([.ref (a 0), .int pg] : List Value).toArray below meth c D A 4 true 0 0 (MQ below (roQ (fun v => v = some (.int (nI (cnI (fun s => G s && (decide (pg < 0) || decide (ofM fa s 0 = pg))) mk))))) ([.ref (a 0), .int pg] : List Value).toArray s 0 0 (fun _ => False)) (wM D a fa fp fs fv fg fw fd ft fn p1 pm wk dm sp iw od) 4 [(3, .int (nI i)), (2, .int (nI k)), (0, .ref (a 0)), (1, .int pg)] [] := by
    intro n
    induction n using Nat.strongRecOn with
    | _ n ih =>
    intro i k hi hn hk hx
    refine g_iload_n X dX7_goodStamps_4 rfl 0 rfl rfl ?_
    refine g_aload_n X dX7_goodStamps_5 rfl 2 rfl rfl ?_
    refine gM_get_at X dX7_goodStamps_6 hinX70 hl7 rfl ?_
    refine g_bipush (v := (76 : Int32)) X dX7_goodStamps_9 (by decide) rfl ?_
    refine gM_ld_at X dX7_goodStamps_11 (k := 76) rfl (by decide) rfl ?_
    refine g_topi (hmk) ?_
    refine g_icmp_ge X dX7_goodStamps_12 52 (by decide) rfl (fun h12 => ?_) (fun h12 => ?_)
    · have i12 := nj_le (a := mk) (b := i) (by omega) (by omega) h12
      have hii : i = mk := by omega
      subst hii
      refine g_iload_n X dX7_goodStamps_52 rfl 1 rfl rfl ?_
      refine g_retR X hr (by first | rfl | exact b2i_nar _) dX7_goodStamps_53 ?_
      exact congrArg (fun x => some (Value.int (nI x))) hx
    · have i12 := nj_nle (a := mk) (b := i) (by omega) (by omega) h12
      refine g_iload_n X dX7_goodStamps_15 rfl 1 rfl rfl ?_
      refine g_aload_n X dX7_goodStamps_16 rfl 2 rfl rfl ?_
      refine gM_get_good X dX7_goodStamps_17 hinX70 hl23 rfl ?_
      refine g_iload_n X dX7_goodStamps_20 rfl 0 rfl rfl ?_
      refine gM_ld_good X dX7_goodStamps_21 (by first | rfl | assumption) (by omega) rfl ?_
      refine g_topi (hG i (by omega)) ?_
      refine g_if_eq X dX7_goodStamps_22 43 (by decide) rfl (fun h22 => ?_) (fun h22 => ?_)
      · replace h22 := b2i_0 h22
        refine g_iconst (v := (0 : Int32)) X dX7_goodStamps_43 (by decide) rfl ?_
        refine g_iadd X dX7_goodStamps_44 rfl ?_
        refine g_topi (y := nI (k + 0)) (nI_add (k) (0)) ?_
        refine g_istore_n X [(2, _), (3, _), (0, _), (1, _)] dX7_goodStamps_45 rfl (by decide) rfl rfl ?_
        refine g_iinc (v := nI (i + 1)) X [(3, _), (2, _), (0, _), (1, _)] dX7_goodStamps_46 1 rfl (nI_add (i) 1) (by decide) rfl rfl ?_
        refine g_goto X dX7_goodStamps_49 4 (by decide) ?_
        exact ih (mk - (i + 1)) (by omega) (i + 1) _ (by omega) rfl (by omega) (by rw [hx, cnI]; simp [*])
      · replace h22 := b2i_n0 h22
        refine g_iload_n X dX7_goodStamps_25 rfl 3 rfl rfl ?_
        refine g_if_lt X dX7_goodStamps_26 39 (by decide) rfl (fun h26 => ?_) (fun h26 => ?_)
        · have i26 : _ < (0 : Int) := ic_lt h26
          refine g_iconst (v := (1 : Int32)) X dX7_goodStamps_39 (by decide) rfl ?_
          refine g_goto X dX7_goodStamps_40 44 (by decide) ?_
          refine g_iadd X dX7_goodStamps_44 rfl ?_
          refine g_topi (y := nI (k + 1)) (nI_add (k) (1)) ?_
          refine g_istore_n X [(2, _), (3, _), (0, _), (1, _)] dX7_goodStamps_45 rfl (by decide) rfl rfl ?_
          refine g_iinc (v := nI (i + 1)) X [(3, _), (2, _), (0, _), (1, _)] dX7_goodStamps_46 1 rfl (nI_add (i) 1) (by decide) rfl rfl ?_
          refine g_goto X dX7_goodStamps_49 4 (by decide) ?_
          exact ih (mk - (i + 1)) (by omega) (i + 1) _ (by omega) rfl (by omega) (by rw [hx, cnI]; simp [*])
        · have i26 : (0 : Int) ≤ _ := ic_nlt h26
          refine g_aload_n X dX7_goodStamps_29 rfl 2 rfl rfl ?_
          refine g_iload_n X dX7_goodStamps_30 rfl 0 rfl rfl ?_
          refine g_iconst (v := (0 : Int32)) X dX7_goodStamps_31 (by decide) rfl ?_
          refine g_callVRs (n := 2) (As := [_, _]) (rest := [_]) X (c_X7_of l D _ _ _ _ _ _ _ _ _ _ _ _ _ _ _ _ _  (i) (0) (by omega) (by omega)) gX7_goodStamps_X7_of rfl (by decide +kernel) ⟨Nat.le_of_ble_eq_true rfl, Nat.le_of_ble_eq_true rfl⟩ rfl rfl  rfl rfl (Nat.le_of_ble_eq_true rfl) dX7_goodStamps_32 ⟨Nat.le_of_ble_eq_true rfl, Nat.le_of_ble_eq_true rfl⟩ rfl (fun v hv => ?_)
          obtain rfl := hv
          refine g_st (st' := [_, _]) rfl ?_
          refine g_iload_n X dX7_goodStamps_35 rfl 3 rfl rfl ?_
          refine g_icmp_ne X dX7_goodStamps_36 43 (by decide) rfl (fun h36 => ?_) (fun h36 => ?_)
          · refine g_iconst (v := (0 : Int32)) X dX7_goodStamps_43 (by decide) rfl ?_
            refine g_iadd X dX7_goodStamps_44 rfl ?_
            refine g_topi (y := nI (k + 0)) (nI_add (k) (0)) ?_
            refine g_istore_n X [(2, _), (3, _), (0, _), (1, _)] dX7_goodStamps_45 rfl (by decide) rfl rfl ?_
            refine g_iinc (v := nI (i + 1)) X [(3, _), (2, _), (0, _), (1, _)] dX7_goodStamps_46 1 rfl (nI_add (i) 1) (by decide) rfl rfl ?_
            refine g_goto X dX7_goodStamps_49 4 (by decide) ?_
            exact ih (mk - (i + 1)) (by omega) (i + 1) _ (by omega) rfl (by omega) (by rw [hx, cnI]; simp [*])
          · refine g_iconst (v := (1 : Int32)) X dX7_goodStamps_39 (by decide) rfl ?_
            refine g_goto X dX7_goodStamps_40 44 (by decide) ?_
            refine g_iadd X dX7_goodStamps_44 rfl ?_
            refine g_topi (y := nI (k + 1)) (nI_add (k) (1)) ?_
            refine g_istore_n X [(2, _), (3, _), (0, _), (1, _)] dX7_goodStamps_45 rfl (by decide) rfl rfl ?_
            refine g_iinc (v := nI (i + 1)) X [(3, _), (2, _), (0, _), (1, _)] dX7_goodStamps_46 1 rfl (nI_add (i) 1) (by decide) rfl rfl ?_
            refine g_goto X dX7_goodStamps_49 4 (by decide) ?_
            exact ih (mk - (i + 1)) (by omega) (i + 1) _ (by omega) rfl (by omega) (by rw [hx, cnI]; simp [*])
  exact L4 mk 0 0 (by omega) (by omega) (by omega) rfl

set_option maxHeartbeats 4000000 in
set_option maxRecDepth 100000 in
theorem c_X7_chain (l : Launch) (D : DT) (a : Nat → Nat) (fa fp fs fv fg fw fd ft fn : Nat → Int32) (p1 pm wk dm sp iw od : Int32) (mk : Nat) (hmk : fa 76 = nI mk) (h40 : mk ≤ 40) (hst : ∀ s, s < mk → stOK fa s) (q : Nat) (hq : q < mk) : MR l yX7_chain wsX7_chain 1 22 D [.ref (a 0), .int (nI q)] (wM D a fa fp fs fv fg fw fd ft fn p1 pm wk dm sp iw od) (fun v => v = some (.int (nI (chN fa (nI q))))) := by
  refine MR.of (cc := cX7_chain) (maxL := 4) (ret := (some .int)) (lv := [(0, .ref (a 0)), (1, .int (nI q))]) (by decide +kernel) rfl (Nat.le_of_ble_eq_true rfl) rfl ?_
  intro p e s m below meth c A X hr hmn
  have hinX70 : ∀ w ∈ wsX70, w ∈ wsX7_chain := fun w h => List.mem_cons_of_mem _ (List.mem_append_right _ h)
  refine g_iconst (v := (0 : Int32)) X dX7_chain_0 (by decide) rfl ?_
  refine g_istore_n X [(2, _), (0, _), (1, _)] dX7_chain_1 rfl (by decide) rfl rfl ?_
  refine g_iload_n X dX7_chain_2 rfl 2 rfl rfl ?_
  refine g_istore_n X [(3, _), (2, _), (0, _), (1, _)] dX7_chain_3 rfl (by decide) rfl rfl ?_
  have L4 : ∀ (n : Nat) (sx : Int32) (k : Nat) (hk : k + n = 41) (hs : sx = -6 ∨ ∃ q : Nat, q < mk ∧ q < n ∧ sx = nI q) (hR : chI fa n sx k = chN fa (nI q)), GG p l e (wRoom 1 22 0 0) s m ([.ref (a 0), .int (nI q)] : List Value).toArray below meth c D A 4 true 0 0 (MQ below (roQ (fun v => v = some (.int (nI (chN fa (nI q)))))) ([.ref (a 0), .int (nI q)] : List Value).toArray s 0 0 (fun _ => False)) (wM D a fa fp fs fv fg fw fd ft fn p1 pm wk dm sp iw od) 4 [(3, .int sx), (2, .int (nI k)), (0, .ref (a 0))] [] := by
    intro n
    induction n using Nat.strongRecOn with
    | _ n ih =>
    intro sx k hk hs hR
    refine g_iload_n X dX7_chain_4 rfl 0 rfl rfl ?_
    refine g_if_lt X dX7_chain_5 21 (by decide) rfl (fun h5 => ?_) (fun h5 => ?_)
    · have i5 : _ < (0 : Int) := ic_lt h5
      refine g_iload_n X dX7_chain_21 rfl 1 rfl rfl ?_
      refine g_retR X hr (by first | rfl | exact b2i_nar _) dX7_chain_22 ?_
      refine congrArg (fun x => some (Value.int (nI x))) ?_
      rw [← hR]
      cases n with
      | zero => rfl
      | succ n => rw [chI, if_pos h5]
    · have i5 : (0 : Int) ≤ _ := ic_nlt h5
      obtain ⟨t, ht, htn, es⟩ := hs.resolve_left (fun e => by rw [e] at h5; exact absurd h5 (by decide))
      subst es
      refine g_iinc (v := nI (k + 1)) X [(2, _), (3, _), (0, _)] dX7_chain_8 1 rfl (nI_add (k) 1) (by decide) rfl rfl ?_
      refine g_aload_n X dX7_chain_11 rfl 2 rfl rfl ?_
      refine g_iload_n X dX7_chain_12 rfl 1 rfl rfl ?_
      refine g_iconst (v := (4 : Int32)) X dX7_chain_13 (by decide) rfl ?_
      refine g_callVRs (n := 2) (As := [_, _]) (rest := []) X (c_X7_of l D _ _ _ _ _ _ _ _ _ _ _ _ _ _ _ _ _  (t) (4) (by omega) (by omega)) gX7_chain_X7_of rfl (by decide +kernel) ⟨Nat.le_of_ble_eq_true rfl, Nat.le_of_ble_eq_true rfl⟩ rfl rfl  rfl rfl (Nat.le_of_ble_eq_true rfl) dX7_chain_14 ⟨Nat.le_of_ble_eq_true rfl, Nat.le_of_ble_eq_true rfl⟩ rfl (fun v hv => ?_)
      obtain rfl := hv
      refine g_st (st' := [_]) rfl ?_
      refine g_istore_n X [(3, _), (2, _), (0, _)] dX7_chain_17 rfl (by decide) rfl rfl ?_
      refine g_goto X dX7_chain_18 4 (by decide) ?_
      refine ih (n - 1) (by omega) _ (k + 1) (by omega) ?_ ?_
      · obtain ⟨-, -, -, -, hrt, -, -⟩ := hst t (by omega)
        rcases hrt with h | ⟨r2, h1, h2⟩
        · exact Or.inl h
        · exact Or.inr ⟨r2, by omega, by omega, h2⟩
      · rw [← hR]
        obtain ⟨n1, rfl⟩ : ∃ n1, n = n1 + 1 := ⟨n - 1, by omega⟩
        rw [chI, if_neg h5, nI_clamp (by omega)]
        rfl
  refine g_lv [0, 1, 2] [(3, _), (2, _), (0, _)] rfl ?_
  exact L4 41 (nI q) 0 rfl (Or.inr ⟨q, hq, by omega, rfl⟩) rfl

set_option maxHeartbeats 4000000 in
set_option maxRecDepth 100000 in
theorem c_X7_isInChain (l : Launch) (D : DT) (a : Nat → Nat) (fa fp fs fv fg fw fd ft fn : Nat → Int32) (p1 pm wk dm sp iw od : Int32) (mk : Nat) (hmk : fa 76 = nI mk) (h40 : mk ≤ 40) (hst : ∀ s, s < mk → stOK fa s) (q q2 : Nat) (hq : q < mk) (hq2 : q2 < mk) : MR l yX7_isInChain wsX7_isInChain 1 22 D [.ref (a 0), .int (nI q), .int (nI q2)] (wM D a fa fp fs fv fg fw fd ft fn p1 pm wk dm sp iw od) (fun v => v = some (.int (b2i (isIC fa q q2)))) := by
  refine MR.of (cc := cX7_isInChain) (maxL := 4) (ret := (some .boolean)) (lv := [(0, .ref (a 0)), (1, .int (nI q)), (2, .int (nI q2))]) (by decide +kernel) rfl (Nat.le_of_ble_eq_true rfl) rfl ?_
  intro p e s m below meth c A X hr hmn
  have hinX70 : ∀ w ∈ wsX70, w ∈ wsX7_isInChain := fun w h => List.mem_cons_of_mem _ (List.mem_append_right _ h)
  refine g_iload_n X dX7_isInChain_0 rfl 2 rfl rfl ?_
  refine g_istore_n X [(3, _), (0, _), (1, _), (2, _)] dX7_isInChain_1 rfl (by decide) rfl rfl ?_
  have L2 : ∀ (n : Nat) (sx : Int32) (hs : sx = -6 ∨ ∃ t : Nat, t < mk ∧ t < n ∧ sx = nI t) (hR : icI fa q n sx = isIC fa q q2), GG p l e (wRoom 1 22 0 0) s m ([.ref (a 0), .int (nI q), .int (nI q2)] : List Value).toArray below meth c D A 4 true 0 0 (MQ below (roQ (fun v => v = some (.int (b2i (isIC fa q q2))))) ([.ref (a 0), .int (nI q), .int (nI q2)] : List Value).toArray s 0 0 (fun _ => False)) (wM D a fa fp fs fv fg fw fd ft fn p1 pm wk dm sp iw od) 2 [(3, .int sx), (0, .ref (a 0)), (1, .int (nI q))] [] := by
    intro n
    induction n using Nat.strongRecOn with
    | _ n ih =>
    intro sx hs hR
    refine g_iload_n X dX7_isInChain_2 rfl 0 rfl rfl ?_
    refine g_iload_n X dX7_isInChain_3 rfl 2 rfl rfl ?_
    refine g_icmp_le X dX7_isInChain_4 17 (by decide) rfl (fun h4 => ?_) (fun h4 => ?_)
    · have i4 : _ ≤ _ := ic_le h4
      have hE : decide (sx = nI q) = isIC fa q q2 := by
        rw [← hR]
        cases n with
        | zero => rfl
        | succ n => rw [icI, if_neg (Int32.not_lt.mpr h4)]
      refine g_iload_n X dX7_isInChain_17 rfl 0 rfl rfl ?_
      refine g_iload_n X dX7_isInChain_18 rfl 2 rfl rfl ?_
      refine g_icmp_ne X dX7_isInChain_19 26 (by decide) rfl (fun h19 => ?_) (fun h19 => ?_)
      · refine g_iconst (v := (0 : Int32)) X dX7_isInChain_26 (by decide) rfl ?_
        refine g_retR X hr (by first | rfl | exact b2i_nar _) dX7_isInChain_27 ?_
        first | exact ret_1 (by rw [← hE]; exact decide_eq_true h19) | exact ret_0 (by rw [← hE]; exact decide_eq_false h19)
      · refine g_iconst (v := (1 : Int32)) X dX7_isInChain_22 (by decide) rfl ?_
        refine g_goto X dX7_isInChain_23 27 (by decide) ?_
        refine g_retR X hr (by first | rfl | exact b2i_nar _) dX7_isInChain_27 ?_
        first | exact ret_1 (by rw [← hE]; exact decide_eq_true h19) | exact ret_0 (by rw [← hE]; exact decide_eq_false h19)
    · have i4 : _ < _ := ic_nle h4
      obtain ⟨t, ht, htn, es⟩ := hs.resolve_left (fun e => by rw [e] at h4; exact h4 (Int32.le_of_lt (lt6 (by omega))))
      subst es
      refine g_aload_n X dX7_isInChain_7 rfl 1 rfl rfl ?_
      refine g_iload_n X dX7_isInChain_8 rfl 0 rfl rfl ?_
      refine g_iconst (v := (4 : Int32)) X dX7_isInChain_9 (by decide) rfl ?_
      refine g_callVRs (n := 2) (As := [_, _]) (rest := []) X (c_X7_of l D _ _ _ _ _ _ _ _ _ _ _ _ _ _ _ _ _  (t) (4) (by omega) (by omega)) gX7_isInChain_X7_of rfl (by decide +kernel) ⟨Nat.le_of_ble_eq_true rfl, Nat.le_of_ble_eq_true rfl⟩ rfl rfl  rfl rfl (Nat.le_of_ble_eq_true rfl) dX7_isInChain_10 ⟨Nat.le_of_ble_eq_true rfl, Nat.le_of_ble_eq_true rfl⟩ rfl (fun v hv => ?_)
      obtain rfl := hv
      refine g_st (st' := [_]) rfl ?_
      refine g_istore_n X [(3, _), (0, _), (1, _)] dX7_isInChain_13 rfl (by decide) rfl rfl ?_
      refine g_goto X dX7_isInChain_14 2 (by decide) ?_
      refine ih (n - 1) (by omega) _ ?_ ?_
      · obtain ⟨-, -, -, -, hrt, -, -⟩ := hst t (by omega)
        rcases hrt with h | ⟨r2, h1, h2⟩
        · exact Or.inl h
        · exact Or.inr ⟨r2, by omega, by omega, h2⟩
      · rw [← hR]
        obtain ⟨n1, rfl⟩ : ∃ n1, n = n1 + 1 := ⟨n - 1, by omega⟩
        rw [icI, if_pos (Int32.not_le.mp h4), nI_clamp (by omega)]
        rfl
  refine g_lv [0, 1, 2] [(3, _), (0, _), (1, _)] rfl ?_
  exact L2 41 (nI q2) (Or.inr ⟨q2, hq2, by omega, rfl⟩) rfl

set_option maxHeartbeats 4000000 in
set_option maxRecDepth 100000 in
theorem c_X7_behind (l : Launch) (D : DT) (a : Nat → Nat) (fa fp fs fv fg fw fd ft fn : Nat → Int32) (p1 pm wk dm sp iw od : Int32) (mk : Nat) (hmk : fa 76 = nI mk) (h40 : mk ≤ 40) (hst : ∀ s, s < mk → stOK fa s) (q : Nat) (hq : q < mk) : MR l yX7_behind wsX7_behind 2 45 D [.ref (a 0), .int (nI q)] (wM D a fa fp fs fv fg fw fd ft fn p1 pm wk dm sp iw od) (fun v => v = some (.int (nI (bhN fa q mk)))) := by
  refine MR.of (cc := cX7_behind) (maxL := 4) (ret := (some .int)) (lv := [(0, .ref (a 0)), (1, .int (nI q))]) (by decide +kernel) rfl (Nat.le_of_ble_eq_true rfl) rfl ?_
  intro p e s m below meth c A X hr hmn
  have hinX70 : ∀ w ∈ wsX70, w ∈ wsX7_behind := fun w h => List.mem_cons_of_mem _ (List.mem_append_right _ h)
  have hl7 := List.mem_of_getElem? (l := wsX7_behind) (i := 1) rfl
  refine g_iconst (v := (0 : Int32)) X dX7_behind_0 (by decide) rfl ?_
  refine g_istore_n X [(2, _), (0, _), (1, _)] dX7_behind_1 rfl (by decide) rfl rfl ?_
  refine g_iload_n X dX7_behind_2 rfl 2 rfl rfl ?_
  refine g_iconst (v := (1 : Int32)) X dX7_behind_3 (by decide) rfl ?_
  refine g_iadd X dX7_behind_4 rfl ?_
  refine g_topi (y := nI (q + 1)) (nI_add (q) (1)) ?_
  refine g_istore_n X [(3, _), (2, _), (0, _), (1, _)] dX7_behind_5 rfl (by decide) rfl rfl ?_
  have L6 : ∀ (n i k : Nat) (hi : i ≤ mk) (hqi : q < i) (hn : mk - i = n) (hk : k ≤ i) (hx : k = cnI (fun s => decide (q < s) && isIC fa q s) i), GG p l e (wRoom 2 45 0 0) s m ([.ref (a 0), .int (nI q)] : List Value).toArray below meth c D A 4 true 0 0 (MQ below (roQ (fun v => v = some (.int (nI (bhN fa q mk))))) ([.ref (a 0), .int (nI q)] : List Value).toArray s 0 0 (fun _ => False)) (wM D a fa fp fs fv fg fw fd ft fn p1 pm wk dm sp iw od) 6 [(3, .int (nI i)), (2, .int (nI k)), (0, .ref (a 0)), (1, .int (nI q))] [] := by
    intro n
    induction n using Nat.strongRecOn with
    | _ n ih =>
    intro i k hi hqi hn hk hx
    refine g_iload_n X dX7_behind_6 rfl 0 rfl rfl ?_
    refine g_aload_n X dX7_behind_7 rfl 2 rfl rfl ?_
    refine gM_get_at X dX7_behind_8 hinX70 hl7 rfl ?_
    refine g_bipush (v := (76 : Int32)) X dX7_behind_11 (by decide) rfl ?_
    refine gM_ld_at X dX7_behind_13 (k := 76) rfl (by decide) rfl ?_
    refine g_topi (hmk) ?_
    refine g_icmp_ge X dX7_behind_14 40 (by decide) rfl (fun h14 => ?_) (fun h14 => ?_)
    · have i14 := nj_le (a := mk) (b := i) (by omega) (by omega) h14
      have hii : i = mk := by omega
      subst hii
      refine g_iload_n X dX7_behind_40 rfl 1 rfl rfl ?_
      refine g_retR X hr (by first | rfl | exact b2i_nar _) dX7_behind_41 ?_
      exact congrArg (fun x => some (Value.int (nI x))) hx
    · have i14 := nj_nle (a := mk) (b := i) (by omega) (by omega) h14
      refine g_iload_n X dX7_behind_17 rfl 1 rfl rfl ?_
      refine g_aload_n X dX7_behind_18 rfl 2 rfl rfl ?_
      refine g_iload_n X dX7_behind_19 rfl 3 rfl rfl ?_
      refine g_iload_n X dX7_behind_20 rfl 0 rfl rfl ?_
      refine g_callVRs (n := 2) (As := [_, _]) (rest := [_]) X (c_X7_isInChain l D _ _ _ _ _ _ _ _ _ _ _ _ _ _ _ _ _  mk hmk h40 hst (q) (i) (by omega) (by omega)) gX7_behind_X7_isInChain rfl (by decide +kernel) ⟨Nat.le_of_ble_eq_true rfl, Nat.le_of_ble_eq_true rfl⟩ rfl rfl  rfl rfl (Nat.le_of_ble_eq_true rfl) dX7_behind_21 ⟨Nat.le_of_ble_eq_true rfl, Nat.le_of_ble_eq_true rfl⟩ rfl (fun v hv => ?_)
      obtain rfl := hv
      refine g_st (st' := [_, _]) rfl ?_
      refine g_if_eq X dX7_behind_24 31 (by decide) rfl (fun h24 => ?_) (fun h24 => ?_)
      · replace h24 := b2i_0 h24
        refine g_iconst (v := (0 : Int32)) X dX7_behind_31 (by decide) rfl ?_
        refine g_iadd X dX7_behind_32 rfl ?_
        refine g_topi (y := nI (k + 0)) (nI_add (k) (0)) ?_
        refine g_istore_n X [(2, _), (3, _), (0, _), (1, _)] dX7_behind_33 rfl (by decide) rfl rfl ?_
        refine g_iinc (v := nI (i + 1)) X [(3, _), (2, _), (0, _), (1, _)] dX7_behind_34 1 rfl (nI_add (i) 1) (by decide) rfl rfl ?_
        refine g_goto X dX7_behind_37 6 (by decide) ?_
        exact ih (mk - (i + 1)) (by omega) (i + 1) _ (by omega) (by omega) rfl (by omega) (by rw [hx, cnI]; simp [*])
      · replace h24 := b2i_n0 h24
        refine g_iconst (v := (1 : Int32)) X dX7_behind_27 (by decide) rfl ?_
        refine g_goto X dX7_behind_28 32 (by decide) ?_
        refine g_iadd X dX7_behind_32 rfl ?_
        refine g_topi (y := nI (k + 1)) (nI_add (k) (1)) ?_
        refine g_istore_n X [(2, _), (3, _), (0, _), (1, _)] dX7_behind_33 rfl (by decide) rfl rfl ?_
        refine g_iinc (v := nI (i + 1)) X [(3, _), (2, _), (0, _), (1, _)] dX7_behind_34 1 rfl (nI_add (i) 1) (by decide) rfl rfl ?_
        refine g_goto X dX7_behind_37 6 (by decide) ?_
        exact ih (mk - (i + 1)) (by omega) (i + 1) _ (by omega) (by omega) rfl (by omega) (by rw [hx, cnI]; simp [*])
  exact L6 (mk - (q + 1)) (q + 1) 0 (by omega) (by omega) rfl (by omega) (cnI_0 (fun k hk => by simp; omega)).symm

set_option maxHeartbeats 4000000 in
set_option maxRecDepth 100000 in
theorem c_X7_isGood (l : Launch) (D : DT) (a : Nat → Nat) (fa fp fs fv fg fw fd ft fn : Nat → Int32) (p1 pm wk dm sp iw od : Int32) (mk : Nat) (hmk : fa 76 = nI mk) (h40 : mk ≤ 40) (hst : ∀ s, s < mk → stOK fa s) (q : Nat) (hq : q < mk) : MW l yX7_isGood wsX7_isGood 3 67 0 0 D [.ref (a 0), .int (nI q)] (wM D a fa fp fs fv fg fw fd ft fn p1 pm wk dm sp iw od) (fun v w => v = some (.int (b2i (gd fa q))) ∧ w = (wM D a fa fp fs fv (fgI fa fg mk) fw fd ft fn p1 pm wk dm sp iw od)) := by
  refine MW.of (cc := cX7_isGood) (maxL := 2) (ret := (some .boolean)) (lv := [(0, .ref (a 0)), (1, .int (nI q))]) (by decide +kernel) rfl (Nat.le_of_ble_eq_true rfl) rfl ?_
  intro p e s m below meth c A hAe hAg X hr hmn
  have hinX70 : ∀ w ∈ wsX70, w ∈ wsX7_isGood := fun w h => List.mem_cons_of_mem _ (List.mem_append_right _ h)
  have hl23 := List.mem_of_getElem? (l := wsX7_isGood) (i := 1) rfl
  refine g_aload_n X dX7_isGood_0 rfl 0 rfl rfl ?_
  refine g_callVWs (n := 0) (As := []) (rest := []) X hAg rfl (c_X7_findGood l D _ _ _ _ _ _ _ _ _ _ _ _ _ _ _ _ _  mk hmk h40 hst) gX7_isGood_X7_findGood rfl (by decide +kernel) ⟨Nat.le_of_ble_eq_true rfl, Nat.le_of_ble_eq_true rfl⟩ rfl rfl  rfl rfl (Nat.le_of_ble_eq_true rfl) dX7_isGood_1 ⟨Nat.le_of_ble_eq_true rfl, Nat.le_of_ble_eq_true rfl⟩ rfl (fun v w hv => ?_)
  obtain ⟨rfl, rfl⟩ := hv
  refine ⟨rfl, ?_⟩
  refine g_st (st' := []) rfl ?_
  refine g_aload_n X dX7_isGood_4 rfl 0 rfl rfl ?_
  refine gM_get_good X dX7_isGood_5 hinX70 hl23 rfl ?_
  refine g_iload_n X dX7_isGood_8 rfl 1 rfl rfl ?_
  refine gM_ld_good X dX7_isGood_9 (by first | rfl | assumption) (by omega) rfl ?_
  refine g_topi (fgI_lt (f := fa) (g := fg) hq) ?_
  refine g_retW X hr (by first | rfl | exact b2i_nar _) dX7_isGood_10 hAe ?_
  exact ⟨rfl, rfl⟩

set_option maxHeartbeats 4000000 in
set_option maxRecDepth 100000 in
theorem c_X7_allGood (l : Launch) (D : DT) (a : Nat → Nat) (fa fp fs fv fg fw fd ft fn : Nat → Int32) (p1 pm wk dm sp iw od : Int32) (mk : Nat) (hmk : fa 76 = nI mk) (h40 : mk ≤ 40) (hst : ∀ s, s < mk → stOK fa s) : MW l yX7_allGood wsX7_allGood 3 67 0 0 D [.ref (a 0)] (wM D a fa fp fs fv fg fw fd ft fn p1 pm wk dm sp iw od) (fun v w => v = some (.int (nI (cnI (gd fa) mk))) ∧ w = (wM D a fa fp fs fv (fgI fa fg mk) fw fd ft fn p1 pm wk dm sp iw od)) := by
  refine MW.of (cc := cX7_allGood) (maxL := 1) (ret := (some .int)) (lv := [(0, .ref (a 0))]) (by decide +kernel) rfl (Nat.le_of_ble_eq_true rfl) rfl ?_
  intro p e s m below meth c A hAe hAg X hr hmn
  have hinX70 : ∀ w ∈ wsX70, w ∈ wsX7_allGood := fun w h => List.mem_cons_of_mem _ (List.mem_append_right _ h)
  refine g_aload_n X dX7_allGood_0 rfl 0 rfl rfl ?_
  refine g_callVWs (n := 0) (As := []) (rest := []) X hAg rfl (c_X7_findGood l D _ _ _ _ _ _ _ _ _ _ _ _ _ _ _ _ _  mk hmk h40 hst) gX7_allGood_X7_findGood rfl (by decide +kernel) ⟨Nat.le_of_ble_eq_true rfl, Nat.le_of_ble_eq_true rfl⟩ rfl rfl  rfl rfl (Nat.le_of_ble_eq_true rfl) dX7_allGood_1 ⟨Nat.le_of_ble_eq_true rfl, Nat.le_of_ble_eq_true rfl⟩ rfl (fun v w hv => ?_)
  obtain ⟨rfl, rfl⟩ := hv
  refine ⟨rfl, ?_⟩
  refine g_st (st' := []) rfl ?_
  refine g_aload_n X dX7_allGood_4 rfl 0 rfl rfl ?_
  refine g_bipush (v := ((-6) : Int32)) X dX7_allGood_5 (by decide) rfl ?_
  refine g_callVRs (n := 1) (As := [_]) (rest := []) X (c_X7_goodStamps l D _ _ _ _ _ _ _ _ _ _ _ _ _ _ _ _ _  mk hmk h40 hst (gd fa) (fun s hs => fgI_lt hs) (-6)) gX7_allGood_X7_goodStamps rfl (by decide +kernel) ⟨Nat.le_of_ble_eq_true rfl, Nat.le_of_ble_eq_true rfl⟩ rfl rfl  rfl rfl (Nat.le_of_ble_eq_true rfl) dX7_allGood_7 ⟨Nat.le_of_ble_eq_true rfl, Nat.le_of_ble_eq_true rfl⟩ rfl (fun v hv => ?_)
  obtain rfl := hv
  refine g_st (st' := [_]) rfl ?_
  refine g_retW X hr (by first | rfl | exact b2i_nar _) dX7_allGood_10 hAe ?_
  exact ⟨congrArg (fun x => some (Value.int (nI x))) (cnI_P mk (fun k hk => by simp)), rfl⟩
