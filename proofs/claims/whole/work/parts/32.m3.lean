set_option maxHeartbeats 4000000 in
set_option maxRecDepth 100000 in
theorem c_X7_reasonOf (l : Launch) (D : DT) (a : Nat → Nat) (fa fp fs fv fg fw fd ft fn : Nat → Int32) (p1 pm wk dm sp iw od : Int32) (mk : Nat) (h40 : mk ≤ 40) (hst : ∀ s, s < mk → stOK fa s) (g d : Nat) (hg : g < 6) (hd : d < 10) (nd : Int32) (hld : ledM fa g d = -6 ∨ ∃ s : Nat, s < mk ∧ ledM fa g d = nI s) : MW l yX7_reasonOf wsX7_reasonOf 3 69 0 0 D [.ref (a 0), .int (nI g), .int (nI d), .int nd] (wM D a fa fp fs fv fg fw fd ft fn p1 pm wk dm sp iw od) (fun v w => v = some (.int (wlk fa g d nd).1) ∧ w = (wM D a fa fp fs fv fg fw fd ft fn p1 pm (nI (wlk fa g d nd).2) dm sp iw od)) := by
  have hfin : ∀ (s r : Int32) (k n : Nat), (¬ s < 0 → ¬ r = 0) → wlkI fa (nI g) nd (ledM fa g d) n s r k = (r, k) := by
    intro s r k n h
    cases n with
    | zero => rfl
    | succ n => rw [wlkI, if_neg (fun z => h z.1 z.2)]
  refine MW.of (cc := cX7_reasonOf) (maxL := 7) (ret := (some .int)) (lv := [(0, .ref (a 0)), (1, .int (nI g)), (2, .int (nI d)), (3, .int nd)]) (by decide +kernel) rfl (Nat.le_of_ble_eq_true rfl) rfl ?_
  intro p e s m below meth c A hAe hAg X hr hmn
  have hinX70 : ∀ w ∈ wsX70, w ∈ wsX7_reasonOf := fun w h => List.mem_cons_of_mem _ (List.mem_append_right _ h)
  have hl66 := List.mem_of_getElem? (l := wsX7_reasonOf) (i := 1) rfl
  refine g_aload_n X dX7_reasonOf_0 rfl 0 rfl rfl ?_
  refine g_iload_n X dX7_reasonOf_1 rfl 1 rfl rfl ?_
  refine g_iload_n X dX7_reasonOf_2 rfl 2 rfl rfl ?_
  refine g_callVRs (n := 2) (As := [_, _]) (rest := []) X (c_X7_leadsBy l D _ _ _ _ _ _ _ _ _ _ _ _ _ _ _ _ _  (g) (d) (by omega) (by omega)) gX7_reasonOf_X7_leadsBy rfl (by decide +kernel) ⟨Nat.le_of_ble_eq_true rfl, Nat.le_of_ble_eq_true rfl⟩ rfl rfl  rfl rfl (Nat.le_of_ble_eq_true rfl) dX7_reasonOf_3 ⟨Nat.le_of_ble_eq_true rfl, Nat.le_of_ble_eq_true rfl⟩ rfl (fun v hv => ?_)
  obtain rfl := hv
  refine g_st (st' := [_]) rfl ?_
  refine g_istore X [(4, _), (0, _), (1, _), (2, _), (3, _)] dX7_reasonOf_6 (by decide) rfl rfl ?_
  refine g_iload X dX7_reasonOf_8 0 rfl rfl ?_
  refine g_istore X [(5, _), (4, _), (0, _), (1, _), (2, _), (3, _)] dX7_reasonOf_10 (by decide) rfl rfl ?_
  refine g_iload X dX7_reasonOf_12 1 rfl rfl ?_
  refine g_if_ge X dX7_reasonOf_14 21 (by decide) rfl (fun h14 => ?_) (fun h14 => ?_)
  · have i14 : (0 : Int) ≤ _ := ic_le h14
    refine g_iconst (v := (0 : Int32)) X dX7_reasonOf_21 (by decide) rfl ?_
    refine g_istore X [(6, _), (5, _), (4, _), (0, _), (1, _), (2, _), (3, _)] dX7_reasonOf_22 (by decide) rfl rfl ?_
    refine g_aload_n X dX7_reasonOf_24 rfl 3 rfl rfl ?_
    refine g_iconst (v := (0 : Int32)) X dX7_reasonOf_25 (by decide) rfl ?_
    refine gM_put_walked X rfl dX7_reasonOf_26 hinX70 hl66 rfl ?_
    have L29 : ∀ (n : Nat) (sx r : Int32) (k : Nat) (hk : k + n = 41) (hs : sx = -6 ∨ ∃ q : Nat, q < mk ∧ q < n ∧ sx = nI q) (hlw : wlkI fa (nI g) nd (ledM fa g d) n sx r k = wlk fa g d nd), GG p l e (wRoom 3 69 0 0) s m ([.ref (a 0), .int (nI g), .int (nI d), .int nd] : List Value).toArray below meth c D A 7 false 0 0 (MQ below (wrQ D (wM D a fa fp fs fv fg fw fd ft fn p1 pm wk dm sp iw od) s.heap.size (fun v w => v = some (.int (wlk fa g d nd).1) ∧ w = (wM D a fa fp fs fv fg fw fd ft fn p1 pm (nI (wlk fa g d nd).2) dm sp iw od))) ([.ref (a 0), .int (nI g), .int (nI d), .int nd] : List Value).toArray s 0 0 (va_A (wM D a fa fp fs fv fg fw fd ft fn p1 pm wk dm sp iw od) s.heap.size)) (wM D a fa fp fs fv fg fw fd ft fn p1 pm (nI k) dm sp iw od) 29 [(6, .int r), (5, .int sx), (4, .int (ledM fa g d)), (0, .ref (a 0)), (1, .int (nI g)), (3, .int nd)] [] := by
      intro n
      induction n using Nat.strongRecOn with
      | _ n ih =>
      intro sx r k hk hs hlw
      refine g_iload X dX7_reasonOf_29 1 rfl rfl ?_
      refine g_if_lt X dX7_reasonOf_31 83 (by decide) rfl (fun h31 => ?_) (fun h31 => ?_)
      · have i31 : _ < (0 : Int) := ic_lt h31
        rw [hfin _ _ _ _ (by first | exact fun z => absurd h31 z | exact fun _ => h36)] at hlw
        refine g_iload X dX7_reasonOf_83 0 rfl rfl ?_
        refine g_retW X hr (by first | rfl | exact b2i_nar _) dX7_reasonOf_85 hAe ?_
        rw [← hlw]
        exact ⟨rfl, rfl⟩
      · have i31 : (0 : Int) ≤ _ := ic_nlt h31
        refine g_iload X dX7_reasonOf_34 0 rfl rfl ?_
        refine g_if_ne X dX7_reasonOf_36 83 (by decide) rfl (fun h36 => ?_) (fun h36 => ?_)
        · rw [hfin _ _ _ _ (by first | exact fun z => absurd h31 z | exact fun _ => h36)] at hlw
          refine g_iload X dX7_reasonOf_83 0 rfl rfl ?_
          refine g_retW X hr (by first | rfl | exact b2i_nar _) dX7_reasonOf_85 hAe ?_
          rw [← hlw]
          exact ⟨rfl, rfl⟩
        · obtain ⟨q, hq, hqn, es⟩ := hs.resolve_left (fun e => by rw [e] at h31; exact absurd h31 (by decide))
          subst es
          refine g_aload_n X dX7_reasonOf_39 rfl 3 rfl rfl ?_
          refine g_dup X dX7_reasonOf_40 rfl rfl ?_
          refine gM_get_walked X dX7_reasonOf_41 hinX70 hl66 rfl ?_
          refine g_iconst (v := (1 : Int32)) X dX7_reasonOf_44 (by decide) rfl ?_
          refine g_iadd X dX7_reasonOf_45 rfl ?_
          refine g_topi (y := nI (k + 1)) (nI_add (k) (1)) ?_
          refine gM_put_walked X rfl dX7_reasonOf_46 hinX70 hl66 rfl ?_
          refine g_aload_n X dX7_reasonOf_49 rfl 3 rfl rfl ?_
          refine g_iload X dX7_reasonOf_50 1 rfl rfl ?_
          refine g_iload X dX7_reasonOf_52 1 rfl rfl ?_
          refine g_iload X dX7_reasonOf_54 2 rfl rfl ?_
          refine g_icmp_ne X dX7_reasonOf_56 63 (by decide) rfl (fun h56 => ?_) (fun h56 => ?_)
          · refine g_iconst (v := (0 : Int32)) X dX7_reasonOf_63 (by decide) rfl ?_
            refine g_topi (y := b2i (decide (nI q = ledM fa g d))) (by first | exact (by rw [decide_eq_true h56]; rfl) | exact (by rw [decide_eq_false h56]; rfl)) ?_
            refine g_iload_n X dX7_reasonOf_64 rfl 4 rfl rfl ?_
            refine g_iload_n X dX7_reasonOf_65 rfl 5 rfl rfl ?_
            refine g_callVRs (n := 4) (As := [_, _, _, _]) (rest := []) X (c_X7_reasonAt l D _ _ _ _ _ _ _ _ _ _ _ _ _ _ _ _ _  (q) (by omega) (hst _ (by omega)) _ _ _) gX7_reasonOf_X7_reasonAt rfl (by decide +kernel) ⟨Nat.le_of_ble_eq_true rfl, Nat.le_of_ble_eq_true rfl⟩ rfl rfl  rfl rfl (Nat.le_of_ble_eq_true rfl) dX7_reasonOf_66 ⟨Nat.le_of_ble_eq_true rfl, Nat.le_of_ble_eq_true rfl⟩ rfl (fun v hv => ?_)
            obtain rfl := hv
            refine g_st (st' := [_]) rfl ?_
            refine g_istore X [(6, _), (5, _), (4, _), (0, _), (1, _), (3, _)] dX7_reasonOf_69 (by decide) rfl rfl ?_
            refine g_aload_n X dX7_reasonOf_71 rfl 3 rfl rfl ?_
            refine g_iload X dX7_reasonOf_72 1 rfl rfl ?_
            refine g_iconst (v := (4 : Int32)) X dX7_reasonOf_74 (by decide) rfl ?_
            refine g_callVRs (n := 2) (As := [_, _]) (rest := []) X (c_X7_of l D _ _ _ _ _ _ _ _ _ _ _ _ _ _ _ _ _  (q) (4) (by omega) (by omega)) gX7_reasonOf_X7_of rfl (by decide +kernel) ⟨Nat.le_of_ble_eq_true rfl, Nat.le_of_ble_eq_true rfl⟩ rfl rfl  rfl rfl (Nat.le_of_ble_eq_true rfl) dX7_reasonOf_75 ⟨Nat.le_of_ble_eq_true rfl, Nat.le_of_ble_eq_true rfl⟩ rfl (fun v hv => ?_)
            obtain rfl := hv
            refine g_st (st' := [_]) rfl ?_
            refine g_istore X [(5, _), (6, _), (4, _), (0, _), (1, _), (3, _)] dX7_reasonOf_78 (by decide) rfl rfl ?_
            refine g_goto X dX7_reasonOf_80 29 (by decide) ?_
            refine g_lv [1, 0, 2, 3, 4, 5] [(6, _), (5, _), (4, _), (0, _), (1, _), (3, _)] rfl ?_
            refine ih (n - 1) (by omega) _ _ (k + 1) (by omega) ?_ ?_
            · obtain ⟨-, -, -, -, hrt, -, -⟩ := hst q (by omega)
              rcases hrt with h | ⟨r2, h1, h2⟩
              · exact Or.inl h
              · exact Or.inr ⟨r2, by omega, by omega, h2⟩
            · rw [← hlw]
              obtain ⟨n1, rfl⟩ : ∃ n1, n = n1 + 1 := ⟨n - 1, by omega⟩
              rw [wlkI, if_pos ⟨h31, h36⟩, nI_clamp (by omega)]
              rfl
          · refine g_iconst (v := (1 : Int32)) X dX7_reasonOf_59 (by decide) rfl ?_
            refine g_goto X dX7_reasonOf_60 64 (by decide) ?_
            refine g_topi (y := b2i (decide (nI q = ledM fa g d))) (by first | exact (by rw [decide_eq_true h56]; rfl) | exact (by rw [decide_eq_false h56]; rfl)) ?_
            refine g_iload_n X dX7_reasonOf_64 rfl 4 rfl rfl ?_
            refine g_iload_n X dX7_reasonOf_65 rfl 5 rfl rfl ?_
            refine g_callVRs (n := 4) (As := [_, _, _, _]) (rest := []) X (c_X7_reasonAt l D _ _ _ _ _ _ _ _ _ _ _ _ _ _ _ _ _  (q) (by omega) (hst _ (by omega)) _ _ _) gX7_reasonOf_X7_reasonAt rfl (by decide +kernel) ⟨Nat.le_of_ble_eq_true rfl, Nat.le_of_ble_eq_true rfl⟩ rfl rfl  rfl rfl (Nat.le_of_ble_eq_true rfl) dX7_reasonOf_66 ⟨Nat.le_of_ble_eq_true rfl, Nat.le_of_ble_eq_true rfl⟩ rfl (fun v hv => ?_)
            obtain rfl := hv
            refine g_st (st' := [_]) rfl ?_
            refine g_istore X [(6, _), (5, _), (4, _), (0, _), (1, _), (3, _)] dX7_reasonOf_69 (by decide) rfl rfl ?_
            refine g_aload_n X dX7_reasonOf_71 rfl 3 rfl rfl ?_
            refine g_iload X dX7_reasonOf_72 1 rfl rfl ?_
            refine g_iconst (v := (4 : Int32)) X dX7_reasonOf_74 (by decide) rfl ?_
            refine g_callVRs (n := 2) (As := [_, _]) (rest := []) X (c_X7_of l D _ _ _ _ _ _ _ _ _ _ _ _ _ _ _ _ _  (q) (4) (by omega) (by omega)) gX7_reasonOf_X7_of rfl (by decide +kernel) ⟨Nat.le_of_ble_eq_true rfl, Nat.le_of_ble_eq_true rfl⟩ rfl rfl  rfl rfl (Nat.le_of_ble_eq_true rfl) dX7_reasonOf_75 ⟨Nat.le_of_ble_eq_true rfl, Nat.le_of_ble_eq_true rfl⟩ rfl (fun v hv => ?_)
            obtain rfl := hv
            refine g_st (st' := [_]) rfl ?_
            refine g_istore X [(5, _), (6, _), (4, _), (0, _), (1, _), (3, _)] dX7_reasonOf_78 (by decide) rfl rfl ?_
            refine g_goto X dX7_reasonOf_80 29 (by decide) ?_
            refine g_lv [1, 0, 2, 3, 4, 5] [(6, _), (5, _), (4, _), (0, _), (1, _), (3, _)] rfl ?_
            refine ih (n - 1) (by omega) _ _ (k + 1) (by omega) ?_ ?_
            · obtain ⟨-, -, -, -, hrt, -, -⟩ := hst q (by omega)
              rcases hrt with h | ⟨r2, h1, h2⟩
              · exact Or.inl h
              · exact Or.inr ⟨r2, by omega, by omega, h2⟩
            · rw [← hlw]
              obtain ⟨n1, rfl⟩ : ∃ n1, n = n1 + 1 := ⟨n - 1, by omega⟩
              rw [wlkI, if_pos ⟨h31, h36⟩, nI_clamp (by omega)]
              rfl
    refine g_lv [0, 1, 2, 3, 4, 6] [(6, _), (5, _), (4, _), (0, _), (1, _), (3, _)] rfl ?_
    exact L29 41 _ _ 0 rfl (by rcases hld with h | ⟨q, h1, h2⟩; exact Or.inl h; exact Or.inr ⟨q, h1, by omega, h2⟩) (by unfold wlk; first | rw [if_neg (Int32.not_lt.mpr h14)] | rw [if_pos (Int32.not_le.mp h14)])
  · have i14 : _ < (0 : Int) := ic_nle h14
    refine g_iconst (v := (1 : Int32)) X dX7_reasonOf_17 (by decide) rfl ?_
    refine g_goto X dX7_reasonOf_18 22 (by decide) ?_
    refine g_istore X [(6, _), (5, _), (4, _), (0, _), (1, _), (2, _), (3, _)] dX7_reasonOf_22 (by decide) rfl rfl ?_
    refine g_aload_n X dX7_reasonOf_24 rfl 3 rfl rfl ?_
    refine g_iconst (v := (0 : Int32)) X dX7_reasonOf_25 (by decide) rfl ?_
    refine gM_put_walked X rfl dX7_reasonOf_26 hinX70 hl66 rfl ?_
    have L29 : ∀ (n : Nat) (sx r : Int32) (k : Nat) (hk : k + n = 41) (hs : sx = -6 ∨ ∃ q : Nat, q < mk ∧ q < n ∧ sx = nI q) (hlw : wlkI fa (nI g) nd (ledM fa g d) n sx r k = wlk fa g d nd), GG p l e (wRoom 3 69 0 0) s m ([.ref (a 0), .int (nI g), .int (nI d), .int nd] : List Value).toArray below meth c D A 7 false 0 0 (MQ below (wrQ D (wM D a fa fp fs fv fg fw fd ft fn p1 pm wk dm sp iw od) s.heap.size (fun v w => v = some (.int (wlk fa g d nd).1) ∧ w = (wM D a fa fp fs fv fg fw fd ft fn p1 pm (nI (wlk fa g d nd).2) dm sp iw od))) ([.ref (a 0), .int (nI g), .int (nI d), .int nd] : List Value).toArray s 0 0 (va_A (wM D a fa fp fs fv fg fw fd ft fn p1 pm wk dm sp iw od) s.heap.size)) (wM D a fa fp fs fv fg fw fd ft fn p1 pm (nI k) dm sp iw od) 29 [(6, .int r), (5, .int sx), (4, .int (ledM fa g d)), (0, .ref (a 0)), (1, .int (nI g)), (3, .int nd)] [] := by
      intro n
      induction n using Nat.strongRecOn with
      | _ n ih =>
      intro sx r k hk hs hlw
      refine g_iload X dX7_reasonOf_29 1 rfl rfl ?_
      refine g_if_lt X dX7_reasonOf_31 83 (by decide) rfl (fun h31 => ?_) (fun h31 => ?_)
      · have i31 : _ < (0 : Int) := ic_lt h31
        rw [hfin _ _ _ _ (by first | exact fun z => absurd h31 z | exact fun _ => h36)] at hlw
        refine g_iload X dX7_reasonOf_83 0 rfl rfl ?_
        refine g_retW X hr (by first | rfl | exact b2i_nar _) dX7_reasonOf_85 hAe ?_
        rw [← hlw]
        exact ⟨rfl, rfl⟩
      · have i31 : (0 : Int) ≤ _ := ic_nlt h31
        refine g_iload X dX7_reasonOf_34 0 rfl rfl ?_
        refine g_if_ne X dX7_reasonOf_36 83 (by decide) rfl (fun h36 => ?_) (fun h36 => ?_)
        · rw [hfin _ _ _ _ (by first | exact fun z => absurd h31 z | exact fun _ => h36)] at hlw
          refine g_iload X dX7_reasonOf_83 0 rfl rfl ?_
          refine g_retW X hr (by first | rfl | exact b2i_nar _) dX7_reasonOf_85 hAe ?_
          rw [← hlw]
          exact ⟨rfl, rfl⟩
        · obtain ⟨q, hq, hqn, es⟩ := hs.resolve_left (fun e => by rw [e] at h31; exact absurd h31 (by decide))
          subst es
          refine g_aload_n X dX7_reasonOf_39 rfl 3 rfl rfl ?_
          refine g_dup X dX7_reasonOf_40 rfl rfl ?_
          refine gM_get_walked X dX7_reasonOf_41 hinX70 hl66 rfl ?_
          refine g_iconst (v := (1 : Int32)) X dX7_reasonOf_44 (by decide) rfl ?_
          refine g_iadd X dX7_reasonOf_45 rfl ?_
          refine g_topi (y := nI (k + 1)) (nI_add (k) (1)) ?_
          refine gM_put_walked X rfl dX7_reasonOf_46 hinX70 hl66 rfl ?_
          refine g_aload_n X dX7_reasonOf_49 rfl 3 rfl rfl ?_
          refine g_iload X dX7_reasonOf_50 1 rfl rfl ?_
          refine g_iload X dX7_reasonOf_52 1 rfl rfl ?_
          refine g_iload X dX7_reasonOf_54 2 rfl rfl ?_
          refine g_icmp_ne X dX7_reasonOf_56 63 (by decide) rfl (fun h56 => ?_) (fun h56 => ?_)
          · refine g_iconst (v := (0 : Int32)) X dX7_reasonOf_63 (by decide) rfl ?_
            refine g_topi (y := b2i (decide (nI q = ledM fa g d))) (by first | exact (by rw [decide_eq_true h56]; rfl) | exact (by rw [decide_eq_false h56]; rfl)) ?_
            refine g_iload_n X dX7_reasonOf_64 rfl 4 rfl rfl ?_
            refine g_iload_n X dX7_reasonOf_65 rfl 5 rfl rfl ?_
            refine g_callVRs (n := 4) (As := [_, _, _, _]) (rest := []) X (c_X7_reasonAt l D _ _ _ _ _ _ _ _ _ _ _ _ _ _ _ _ _  (q) (by omega) (hst _ (by omega)) _ _ _) gX7_reasonOf_X7_reasonAt rfl (by decide +kernel) ⟨Nat.le_of_ble_eq_true rfl, Nat.le_of_ble_eq_true rfl⟩ rfl rfl  rfl rfl (Nat.le_of_ble_eq_true rfl) dX7_reasonOf_66 ⟨Nat.le_of_ble_eq_true rfl, Nat.le_of_ble_eq_true rfl⟩ rfl (fun v hv => ?_)
            obtain rfl := hv
            refine g_st (st' := [_]) rfl ?_
            refine g_istore X [(6, _), (5, _), (4, _), (0, _), (1, _), (3, _)] dX7_reasonOf_69 (by decide) rfl rfl ?_
            refine g_aload_n X dX7_reasonOf_71 rfl 3 rfl rfl ?_
            refine g_iload X dX7_reasonOf_72 1 rfl rfl ?_
            refine g_iconst (v := (4 : Int32)) X dX7_reasonOf_74 (by decide) rfl ?_
            refine g_callVRs (n := 2) (As := [_, _]) (rest := []) X (c_X7_of l D _ _ _ _ _ _ _ _ _ _ _ _ _ _ _ _ _  (q) (4) (by omega) (by omega)) gX7_reasonOf_X7_of rfl (by decide +kernel) ⟨Nat.le_of_ble_eq_true rfl, Nat.le_of_ble_eq_true rfl⟩ rfl rfl  rfl rfl (Nat.le_of_ble_eq_true rfl) dX7_reasonOf_75 ⟨Nat.le_of_ble_eq_true rfl, Nat.le_of_ble_eq_true rfl⟩ rfl (fun v hv => ?_)
            obtain rfl := hv
            refine g_st (st' := [_]) rfl ?_
            refine g_istore X [(5, _), (6, _), (4, _), (0, _), (1, _), (3, _)] dX7_reasonOf_78 (by decide) rfl rfl ?_
            refine g_goto X dX7_reasonOf_80 29 (by decide) ?_
            refine g_lv [1, 0, 2, 3, 4, 5] [(6, _), (5, _), (4, _), (0, _), (1, _), (3, _)] rfl ?_
            refine ih (n - 1) (by omega) _ _ (k + 1) (by omega) ?_ ?_
            · obtain ⟨-, -, -, -, hrt, -, -⟩ := hst q (by omega)
              rcases hrt with h | ⟨r2, h1, h2⟩
              · exact Or.inl h
              · exact Or.inr ⟨r2, by omega, by omega, h2⟩
            · rw [← hlw]
              obtain ⟨n1, rfl⟩ : ∃ n1, n = n1 + 1 := ⟨n - 1, by omega⟩
              rw [wlkI, if_pos ⟨h31, h36⟩, nI_clamp (by omega)]
              rfl
          · refine g_iconst (v := (1 : Int32)) X dX7_reasonOf_59 (by decide) rfl ?_
            refine g_goto X dX7_reasonOf_60 64 (by decide) ?_
            refine g_topi (y := b2i (decide (nI q = ledM fa g d))) (by first | exact (by rw [decide_eq_true h56]; rfl) | exact (by rw [decide_eq_false h56]; rfl)) ?_
            refine g_iload_n X dX7_reasonOf_64 rfl 4 rfl rfl ?_
            refine g_iload_n X dX7_reasonOf_65 rfl 5 rfl rfl ?_
            refine g_callVRs (n := 4) (As := [_, _, _, _]) (rest := []) X (c_X7_reasonAt l D _ _ _ _ _ _ _ _ _ _ _ _ _ _ _ _ _  (q) (by omega) (hst _ (by omega)) _ _ _) gX7_reasonOf_X7_reasonAt rfl (by decide +kernel) ⟨Nat.le_of_ble_eq_true rfl, Nat.le_of_ble_eq_true rfl⟩ rfl rfl  rfl rfl (Nat.le_of_ble_eq_true rfl) dX7_reasonOf_66 ⟨Nat.le_of_ble_eq_true rfl, Nat.le_of_ble_eq_true rfl⟩ rfl (fun v hv => ?_)
            obtain rfl := hv
            refine g_st (st' := [_]) rfl ?_
            refine g_istore X [(6, _), (5, _), (4, _), (0, _), (1, _), (3, _)] dX7_reasonOf_69 (by decide) rfl rfl ?_
            refine g_aload_n X dX7_reasonOf_71 rfl 3 rfl rfl ?_
            refine g_iload X dX7_reasonOf_72 1 rfl rfl ?_
            refine g_iconst (v := (4 : Int32)) X dX7_reasonOf_74 (by decide) rfl ?_
            refine g_callVRs (n := 2) (As := [_, _]) (rest := []) X (c_X7_of l D _ _ _ _ _ _ _ _ _ _ _ _ _ _ _ _ _  (q) (4) (by omega) (by omega)) gX7_reasonOf_X7_of rfl (by decide +kernel) ⟨Nat.le_of_ble_eq_true rfl, Nat.le_of_ble_eq_true rfl⟩ rfl rfl  rfl rfl (Nat.le_of_ble_eq_true rfl) dX7_reasonOf_75 ⟨Nat.le_of_ble_eq_true rfl, Nat.le_of_ble_eq_true rfl⟩ rfl (fun v hv => ?_)
            obtain rfl := hv
            refine g_st (st' := [_]) rfl ?_
            refine g_istore X [(5, _), (6, _), (4, _), (0, _), (1, _), (3, _)] dX7_reasonOf_78 (by decide) rfl rfl ?_
            refine g_goto X dX7_reasonOf_80 29 (by decide) ?_
            refine g_lv [1, 0, 2, 3, 4, 5] [(6, _), (5, _), (4, _), (0, _), (1, _), (3, _)] rfl ?_
            refine ih (n - 1) (by omega) _ _ (k + 1) (by omega) ?_ ?_
            · obtain ⟨-, -, -, -, hrt, -, -⟩ := hst q (by omega)
              rcases hrt with h | ⟨r2, h1, h2⟩
              · exact Or.inl h
              · exact Or.inr ⟨r2, by omega, by omega, h2⟩
            · rw [← hlw]
              obtain ⟨n1, rfl⟩ : ∃ n1, n = n1 + 1 := ⟨n - 1, by omega⟩
              rw [wlkI, if_pos ⟨h31, h36⟩, nI_clamp (by omega)]
              rfl
    refine g_lv [0, 1, 2, 3, 4, 6] [(6, _), (5, _), (4, _), (0, _), (1, _), (3, _)] rfl ?_
    exact L29 41 _ _ 0 rfl (by rcases hld with h | ⟨q, h1, h2⟩; exact Or.inl h; exact Or.inr ⟨q, h1, by omega, h2⟩) (by unfold wlk; first | rw [if_neg (Int32.not_lt.mpr h14)] | rw [if_pos (Int32.not_le.mp h14)])

set_option maxHeartbeats 4000000 in
set_option maxRecDepth 100000 in
theorem c_X7_dropOver (l : Launch) (D : DT) (a : Nat → Nat) (fa fp fs fv fg fw fd ft fn : Nat → Int32) (p1 pm wk dm sp iw od : Int32) (nn b : Nat) (hnn : fa 90 = nI nn) (h9 : nn ≤ 9) (hb : fa 0 = nI b) (hb8 : b ≤ 8) : MW l yX7_dropOver wsX7_dropOver 1 22 0 0 D [.ref (a 0)] (wM D a fa fp fs fv fg fw fd ft fn p1 pm wk dm sp iw od) (fun v w => v = none ∧ w = (wM D a (drI nn fa nn b) fp fs fv fg fw fd ft fn p1 pm wk dm sp iw od)) := by
  refine MW.of (cc := cX7_dropOver) (maxL := 1) (ret := none) (lv := [(0, .ref (a 0))]) (by decide +kernel) rfl (Nat.le_of_ble_eq_true rfl) rfl ?_
  intro p e s m below meth c A hAe hAg X hr hmn
  have hinX70 : ∀ w ∈ wsX70, w ∈ wsX7_dropOver := fun w h => List.mem_cons_of_mem _ (List.mem_append_right _ h)
  have hl7 := List.mem_of_getElem? (l := wsX7_dropOver) (i := 1) rfl
  have L0 : ∀ (n : Nat) (f1 : Nat → Int32) (m1 : Nat) (hn : m1 ≤ n) (hm9 : m1 ≤ 9) (hn1 : f1 90 = nI m1) (hb1 : f1 0 = nI b) (hR : drI n f1 m1 b = drI nn fa nn b), GG p l e (wRoom 1 22 0 0) s m ([.ref (a 0)] : List Value).toArray below meth c D A 1 false 0 0 (MQ below (wrQ D (wM D a fa fp fs fv fg fw fd ft fn p1 pm wk dm sp iw od) s.heap.size (fun v w => v = none ∧ w = (wM D a (drI nn fa nn b) fp fs fv fg fw fd ft fn p1 pm wk dm sp iw od))) ([.ref (a 0)] : List Value).toArray s 0 0 (va_A (wM D a fa fp fs fv fg fw fd ft fn p1 pm wk dm sp iw od) s.heap.size)) (wM D a f1 fp fs fv fg fw fd ft fn p1 pm wk dm sp iw od) 0 [(0, .ref (a 0))] [] := by
    intro n
    induction n using Nat.strongRecOn with
    | _ n ih =>
    intro f1 m1 hn hm9 hn1 hb1 hR
    refine g_aload_n X dX7_dropOver_0 rfl 0 rfl rfl ?_
    refine gM_get_at X dX7_dropOver_1 hinX70 hl7 rfl ?_
    refine g_bipush (v := (90 : Int32)) X dX7_dropOver_4 (by decide) rfl ?_
    refine gM_ld_at X dX7_dropOver_6 (k := 90) rfl (by decide) rfl ?_
    refine g_topi (hn1) ?_
    refine g_aload_n X dX7_dropOver_7 rfl 0 rfl rfl ?_
    refine gM_get_at X dX7_dropOver_8 hinX70 hl7 rfl ?_
    refine g_iconst (v := (0 : Int32)) X dX7_dropOver_11 (by decide) rfl ?_
    refine gM_ld_at X dX7_dropOver_12 (k := 0) rfl (by decide) rfl ?_
    refine g_topi (hb1) ?_
    refine g_icmp_le X dX7_dropOver_13 35 (by decide) rfl (fun h13 => ?_) (fun h13 => ?_)
    · have i13 := nj_le (a := m1) (b := b) (by omega) (by omega) h13
      refine g_vretW X hr dX7_dropOver_35 hAe ?_
      refine ⟨rfl, ?_⟩
      rw [← hR]
      cases n with
      | zero => rfl
      | succ n => rw [drI, if_neg (by omega)]
    · have i13 := nj_nle (a := m1) (b := b) (by omega) (by omega) h13
      refine g_aload_n X dX7_dropOver_16 rfl 0 rfl rfl ?_
      refine g_iconst (v := (0 : Int32)) X dX7_dropOver_17 (by decide) rfl ?_
      refine g_callVWs (n := 1) (As := [_]) (rest := []) X hAg rfl (c_X7_takeNote l D _ _ _ _ _ _ _ _ _ _ _ _ _ _ _ _ _  m1 0 hn1 (by omega) (by omega)) gX7_dropOver_X7_takeNote rfl (by decide +kernel) ⟨Nat.le_of_ble_eq_true rfl, Nat.le_of_ble_eq_true rfl⟩ rfl rfl  rfl rfl (Nat.le_of_ble_eq_true rfl) dX7_dropOver_18 ⟨Nat.le_of_ble_eq_true rfl, Nat.le_of_ble_eq_true rfl⟩ rfl (fun v w hv => ?_)
      obtain ⟨rfl, rfl⟩ := hv
      refine ⟨rfl, ?_⟩
      refine g_st (st' := []) rfl ?_
      refine g_aload_n X dX7_dropOver_21 rfl 0 rfl rfl ?_
      refine gM_get_at X dX7_dropOver_22 hinX70 hl7 rfl ?_
      refine g_bipush (v := (82 : Int32)) X dX7_dropOver_25 (by decide) rfl ?_
      refine g_dup2 X dX7_dropOver_27 rfl rfl rfl ?_
      refine gM_ld_at X dX7_dropOver_28 (k := 82) rfl (by decide) rfl ?_
      refine g_topi (tkF_lo (by omega)) ?_
      refine g_iconst (v := (1 : Int32)) X dX7_dropOver_29 (by decide) rfl ?_
      refine g_iadd X dX7_dropOver_30 rfl ?_
      refine gM_st_at X rfl dX7_dropOver_31 (k := 82) rfl (by decide) rfl ?_
      refine g_goto X dX7_dropOver_32 0 (by decide) ?_
      obtain ⟨n1, rfl⟩ : ∃ n1, n = n1 + 1 := ⟨n - 1, by omega⟩
      rw [drI, if_pos i13] at hR
      exact ih n1 (by omega) _ (m1 - 1) (by omega) (by omega) (by rw [up_n _ _ (by omega)]; exact tkF_90) (by rw [up_n _ _ (by omega), tkF_lo (by omega)]; exact hb1) hR
  exact L0 nn fa nn (by omega) h9 hnn hb rfl

set_option maxHeartbeats 4000000 in
set_option maxRecDepth 100000 in
theorem c_X7_wipeOfDoor (l : Launch) (D : DT) (a : Nat → Nat) (fa fp fs fv fg fw fd ft fn : Nat → Int32) (p1 pm wk dm sp iw od : Int32) (nn : Nat) (hnn : fa 90 = nI nn) (h9 : nn ≤ 9) (g d : Int32) : MW l yX7_wipeOfDoor wsX7_wipeOfDoor 1 22 0 0 D [.ref (a 0), .int g, .int d] (wM D a fa fp fs fv fg fw fd ft fn p1 pm wk dm sp iw od) (fun v w => v = some (.int (wkN (ofDoor fa g d) fa nn)) ∧ w = (wM D a (wkF (ofDoor fa g d) fa nn) fp fs fv fg fw fd ft fn p1 pm wk dm sp iw od)) := by
  refine MW.of (cc := cX7_wipeOfDoor) (maxL := 5) (ret := (some .int)) (lv := [(0, .ref (a 0)), (1, .int g), (2, .int d)]) (by decide +kernel) rfl (Nat.le_of_ble_eq_true rfl) rfl ?_
  intro p e s m below meth c A hAe hAg X hr hmn
  have hinX70 : ∀ w ∈ wsX70, w ∈ wsX7_wipeOfDoor := fun w h => List.mem_cons_of_mem _ (List.mem_append_right _ h)
  have hl7 := List.mem_of_getElem? (l := wsX7_wipeOfDoor) (i := 1) rfl
  refine g_iconst (v := (0 : Int32)) X dX7_wipeOfDoor_0 (by decide) rfl ?_
  refine g_istore_n X [(3, _), (0, _), (1, _), (2, _)] dX7_wipeOfDoor_1 rfl (by decide) rfl rfl ?_
  refine g_aload_n X dX7_wipeOfDoor_2 rfl 1 rfl rfl ?_
  refine gM_get_at X dX7_wipeOfDoor_3 hinX70 hl7 rfl ?_
  refine g_bipush (v := (90 : Int32)) X dX7_wipeOfDoor_6 (by decide) rfl ?_
  refine gM_ld_at X dX7_wipeOfDoor_8 (k := 90) rfl (by decide) rfl ?_
  refine g_topi hnn ?_
  refine g_iconst (v := (1 : Int32)) X dX7_wipeOfDoor_9 (by decide) rfl ?_
  refine g_isub X dX7_wipeOfDoor_10 rfl ?_
  refine g_istore X [(4, _), (3, _), (0, _), (1, _), (2, _)] dX7_wipeOfDoor_11 (by decide) rfl rfl ?_
  have L13 : ∀ (j : Nat) (f1 : Nat → Int32) (m1 k : Nat) (hj : j ≤ m1) (hm9 : m1 ≤ 9) (hn1 : f1 90 = nI m1) (hno : ∀ i w, i < j → w < 4 → noteM f1 i w = noteM fa i w) (hk : k + j ≤ 9) (hR : wkI (ofDoor fa g d) j f1 m1 k = wkI (ofDoor fa g d) nn fa nn 0), GG p l e (wRoom 1 22 0 0) s m ([.ref (a 0), .int g, .int d] : List Value).toArray below meth c D A 5 false 0 0 (MQ below (wrQ D (wM D a fa fp fs fv fg fw fd ft fn p1 pm wk dm sp iw od) s.heap.size (fun v w => v = some (.int (wkN (ofDoor fa g d) fa nn)) ∧ w = (wM D a (wkF (ofDoor fa g d) fa nn) fp fs fv fg fw fd ft fn p1 pm wk dm sp iw od))) ([.ref (a 0), .int g, .int d] : List Value).toArray s 0 0 (va_A (wM D a fa fp fs fv fg fw fd ft fn p1 pm wk dm sp iw od) s.heap.size)) (wM D a f1 fp fs fv fg fw fd ft fn p1 pm wk dm sp iw od) 13 [(4, .int (nI j - 1)), (3, .int (nI k)), (0, .ref (a 0)), (1, .int g), (2, .int d)] [] := by
    intro j
    induction j using Nat.strongRecOn with
    | _ j ih =>
    intro f1 m1 k hj hm9 hn1 hno hk hR
    refine g_iload X dX7_wipeOfDoor_13 0 rfl rfl ?_
    refine g_if_lt X dX7_wipeOfDoor_15 55 (by decide) rfl (fun h15 => ?_) (fun h15 => ?_)
    · have i15 : _ < (0 : Int) := ic_lt h15
      have hj0 : j = 0 := by rw [mk_m1 (by omega)] at i15; omega
      subst hj0
      refine g_aload_n X dX7_wipeOfDoor_55 rfl 2 rfl rfl ?_
      refine gM_get_at X dX7_wipeOfDoor_56 hinX70 hl7 rfl ?_
      refine g_bipush (v := (81 : Int32)) X dX7_wipeOfDoor_59 (by decide) rfl ?_
      refine g_dup2 X dX7_wipeOfDoor_61 rfl rfl rfl ?_
      refine gM_ld_at X dX7_wipeOfDoor_62 (k := 81) rfl (by decide) rfl ?_
      refine g_iload_n X dX7_wipeOfDoor_63 rfl 1 rfl rfl ?_
      refine g_iadd X dX7_wipeOfDoor_64 rfl ?_
      refine gM_st_at X rfl dX7_wipeOfDoor_65 (k := 81) rfl (by decide) rfl ?_
      refine g_iload_n X dX7_wipeOfDoor_66 rfl 1 rfl rfl ?_
      refine g_retW X hr (by first | rfl | exact b2i_nar _) dX7_wipeOfDoor_67 hAe ?_
      unfold wkN wkF
      rw [← hR]
      exact ⟨rfl, rfl⟩
    · have i15 : (0 : Int) ≤ _ := ic_nlt h15
      have hj1 : 0 < j := by rw [mk_m1 (by omega)] at i15; omega
      obtain ⟨q, rfl⟩ : ∃ q, j = q + 1 := ⟨j - 1, by omega⟩
      rw [nI_pred]
      refine g_aload_n X dX7_wipeOfDoor_18 rfl 2 rfl rfl ?_
      refine g_iload X dX7_wipeOfDoor_19 0 rfl rfl ?_
      refine g_iconst (v := (0 : Int32)) X dX7_wipeOfDoor_21 (by decide) rfl ?_
      refine g_callVRs (n := 2) (As := [_, _]) (rest := []) X (c_X7_ofNote l D _ _ _ _ _ _ _ _ _ _ _ _ _ _ _ _ _  (q) (0) (by omega) (by omega)) gX7_wipeOfDoor_X7_ofNote rfl (by decide +kernel) ⟨Nat.le_of_ble_eq_true rfl, Nat.le_of_ble_eq_true rfl⟩ rfl rfl  rfl rfl (Nat.le_of_ble_eq_true rfl) dX7_wipeOfDoor_22 ⟨Nat.le_of_ble_eq_true rfl, Nat.le_of_ble_eq_true rfl⟩ rfl (fun v hv => ?_)
      obtain rfl := hv
      refine g_st (st' := [_]) rfl ?_
      refine g_topi (hno q 0 (by omega) (by omega)) ?_
      refine g_iload_n X dX7_wipeOfDoor_25 rfl 3 rfl rfl ?_
      refine g_icmp_ne X dX7_wipeOfDoor_26 49 (by decide) rfl (fun h26 => ?_) (fun h26 => ?_)
      · refine g_iinc (v := nI q - 1) X [(4, _), (3, _), (0, _), (1, _), (2, _)] dX7_wipeOfDoor_49 0 rfl (iinc_m1 _) (by decide) rfl rfl ?_
        refine g_goto X dX7_wipeOfDoor_52 13 (by decide) ?_
        first
        | exact ih q (by omega) f1 m1 k (by omega) (by omega) hn1 (fun i w hi hw => hno i w (by omega) hw) (by omega) (by rw [← hR, wkI, if_neg (by simp [ofDoor, *])])
        | exact ih q (by omega) (tkF f1 m1 q) (m1 - 1) (k + 1) (by omega) (by omega) tkF_90 (fun i w hi hw => by rw [tkF_no hi hw]; exact hno i w (by omega) hw) (by omega) (by rw [← hR, wkI, if_pos (by simp [ofDoor, *])])
      · refine g_aload_n X dX7_wipeOfDoor_29 rfl 2 rfl rfl ?_
        refine g_iload X dX7_wipeOfDoor_30 0 rfl rfl ?_
        refine g_iconst (v := (1 : Int32)) X dX7_wipeOfDoor_32 (by decide) rfl ?_
        refine g_callVRs (n := 2) (As := [_, _]) (rest := []) X (c_X7_ofNote l D _ _ _ _ _ _ _ _ _ _ _ _ _ _ _ _ _  (q) (1) (by omega) (by omega)) gX7_wipeOfDoor_X7_ofNote rfl (by decide +kernel) ⟨Nat.le_of_ble_eq_true rfl, Nat.le_of_ble_eq_true rfl⟩ rfl rfl  rfl rfl (Nat.le_of_ble_eq_true rfl) dX7_wipeOfDoor_33 ⟨Nat.le_of_ble_eq_true rfl, Nat.le_of_ble_eq_true rfl⟩ rfl (fun v hv => ?_)
        obtain rfl := hv
        refine g_st (st' := [_]) rfl ?_
        refine g_topi (hno q 1 (by omega) (by omega)) ?_
        refine g_iload_n X dX7_wipeOfDoor_36 rfl 4 rfl rfl ?_
        refine g_icmp_ne X dX7_wipeOfDoor_37 49 (by decide) rfl (fun h37 => ?_) (fun h37 => ?_)
        · refine g_iinc (v := nI q - 1) X [(4, _), (3, _), (0, _), (1, _), (2, _)] dX7_wipeOfDoor_49 0 rfl (iinc_m1 _) (by decide) rfl rfl ?_
          refine g_goto X dX7_wipeOfDoor_52 13 (by decide) ?_
          first
          | exact ih q (by omega) f1 m1 k (by omega) (by omega) hn1 (fun i w hi hw => hno i w (by omega) hw) (by omega) (by rw [← hR, wkI, if_neg (by simp [ofDoor, *])])
          | exact ih q (by omega) (tkF f1 m1 q) (m1 - 1) (k + 1) (by omega) (by omega) tkF_90 (fun i w hi hw => by rw [tkF_no hi hw]; exact hno i w (by omega) hw) (by omega) (by rw [← hR, wkI, if_pos (by simp [ofDoor, *])])
        · refine g_aload_n X dX7_wipeOfDoor_40 rfl 2 rfl rfl ?_
          refine g_iload X dX7_wipeOfDoor_41 0 rfl rfl ?_
          refine g_callVWs (n := 1) (As := [_]) (rest := []) X hAg rfl (c_X7_takeNote l D _ _ _ _ _ _ _ _ _ _ _ _ _ _ _ _ _  m1 (q) hn1 (by omega) (by omega)) gX7_wipeOfDoor_X7_takeNote rfl (by decide +kernel) ⟨Nat.le_of_ble_eq_true rfl, Nat.le_of_ble_eq_true rfl⟩ rfl rfl  rfl rfl (Nat.le_of_ble_eq_true rfl) dX7_wipeOfDoor_43 ⟨Nat.le_of_ble_eq_true rfl, Nat.le_of_ble_eq_true rfl⟩ rfl (fun v w hv => ?_)
          obtain ⟨rfl, rfl⟩ := hv
          refine ⟨rfl, ?_⟩
          refine g_st (st' := []) rfl ?_
          refine g_iinc (v := nI (k + 1)) X [(3, _), (4, _), (0, _), (1, _), (2, _)] dX7_wipeOfDoor_46 1 rfl (nI_add (k) 1) (by decide) rfl rfl ?_
          refine g_iinc (v := nI q - 1) X [(4, _), (3, _), (0, _), (1, _), (2, _)] dX7_wipeOfDoor_49 1 rfl (iinc_m1 _) (by decide) rfl rfl ?_
          refine g_goto X dX7_wipeOfDoor_52 13 (by decide) ?_
          first
          | exact ih q (by omega) f1 m1 k (by omega) (by omega) hn1 (fun i w hi hw => hno i w (by omega) hw) (by omega) (by rw [← hR, wkI, if_neg (by simp [ofDoor, *])])
          | exact ih q (by omega) (tkF f1 m1 q) (m1 - 1) (k + 1) (by omega) (by omega) tkF_90 (fun i w hi hw => by rw [tkF_no hi hw]; exact hno i w (by omega) hw) (by omega) (by rw [← hR, wkI, if_pos (by simp [ofDoor, *])])
  exact L13 nn fa nn 0 (by omega) h9 hnn (fun _ _ _ _ => rfl) (by omega) rfl

set_option maxHeartbeats 4000000 in
set_option maxRecDepth 100000 in
theorem c_X7_layGood (l : Launch) (D : DT) (a : Nat → Nat) (fa fp fs fv fg fw fd ft fn : Nat → Int32) (p1 pm wk dm sp iw od : Int32) (mk : Nat) (hmk : fa 76 = nI mk) (h40 : mk ≤ 40) (hst : ∀ s, s < mk → stOK fa s) : MW l yX7_layGood wsX7_layGood 3 67 0 0 D [.ref (a 0)] (wM D a fa fp fs fv fg fw fd ft fn p1 pm wk dm sp iw od) (fun v w => v = none ∧ w = (wM D a fa fp fs fv (fgI fa fg mk) (cpI (fgI fa fg mk) fw mk) fd ft fn p1 pm wk dm sp iw od)) := by
  refine MW.of (cc := cX7_layGood) (maxL := 2) (ret := none) (lv := [(0, .ref (a 0))]) (by decide +kernel) rfl (Nat.le_of_ble_eq_true rfl) rfl ?_
  intro p e s m below meth c A hAe hAg X hr hmn
  have hinX70 : ∀ w ∈ wsX70, w ∈ wsX7_layGood := fun w h => List.mem_cons_of_mem _ (List.mem_append_right _ h)
  have hl7 := List.mem_of_getElem? (l := wsX7_layGood) (i := 1) rfl
  have hl26 := List.mem_of_getElem? (l := wsX7_layGood) (i := 2) rfl
  have hl23 := List.mem_of_getElem? (l := wsX7_layGood) (i := 3) rfl
  refine g_aload_n X dX7_layGood_0 rfl 0 rfl rfl ?_
  refine g_callVWs (n := 0) (As := []) (rest := []) X hAg rfl (c_X7_findGood l D _ _ _ _ _ _ _ _ _ _ _ _ _ _ _ _ _  mk hmk h40 hst) gX7_layGood_X7_findGood rfl (by decide +kernel) ⟨Nat.le_of_ble_eq_true rfl, Nat.le_of_ble_eq_true rfl⟩ rfl rfl  rfl rfl (Nat.le_of_ble_eq_true rfl) dX7_layGood_1 ⟨Nat.le_of_ble_eq_true rfl, Nat.le_of_ble_eq_true rfl⟩ rfl (fun v w hv => ?_)
  obtain ⟨rfl, rfl⟩ := hv
  refine ⟨rfl, ?_⟩
  refine g_st (st' := []) rfl ?_
  refine g_iconst (v := (0 : Int32)) X dX7_layGood_4 (by decide) rfl ?_
  refine g_istore_n X [(1, _), (0, _)] dX7_layGood_5 rfl (by decide) rfl rfl ?_
  have L6 : ∀ (n : Nat) (i : Nat) (hi : i ≤ mk) (hn : mk - i = n), GG p l e (wRoom 3 67 0 0) s m ([.ref (a 0)] : List Value).toArray below meth c D A 2 false 0 0 (MQ below (wrQ D (wM D a fa fp fs fv fg fw fd ft fn p1 pm wk dm sp iw od) s.heap.size (fun v w => v = none ∧ w = (wM D a fa fp fs fv (fgI fa fg mk) (cpI (fgI fa fg mk) fw mk) fd ft fn p1 pm wk dm sp iw od))) ([.ref (a 0)] : List Value).toArray s 0 0 (va_A (wM D a fa fp fs fv fg fw fd ft fn p1 pm wk dm sp iw od) s.heap.size)) (wM D a fa fp fs fv (fgI fa fg mk) (cpI (fgI fa fg mk) fw i) fd ft fn p1 pm wk dm sp iw od) 6 [(1, .int (nI i)), (0, .ref (a 0))] [] := by
    intro n
    induction n using Nat.strongRecOn with
    | _ n ih =>
    intro i hi hn
    refine g_iload_n X dX7_layGood_6 rfl 0 rfl rfl ?_
    refine g_aload_n X dX7_layGood_7 rfl 1 rfl rfl ?_
    refine gM_get_at X dX7_layGood_8 hinX70 hl7 rfl ?_
    refine g_bipush (v := (76 : Int32)) X dX7_layGood_11 (by decide) rfl ?_
    refine gM_ld_at X dX7_layGood_13 (k := 76) rfl (by decide) rfl ?_
    refine g_topi (hmk) ?_
    refine g_icmp_ge X dX7_layGood_14 35 (by decide) rfl (fun h14 => ?_) (fun h14 => ?_)
    · have i14 := nj_le (a := mk) (b := i) (by omega) (by omega) h14
      refine g_vretW X hr dX7_layGood_35 hAe ?_
      have hii : i = mk := by omega
      subst hii
      exact ⟨rfl, rfl⟩
    · have i14 := nj_nle (a := mk) (b := i) (by omega) (by omega) h14
      refine g_aload_n X dX7_layGood_17 rfl 1 rfl rfl ?_
      refine gM_get_wasGood X dX7_layGood_18 hinX70 hl26 rfl ?_
      refine g_iload_n X dX7_layGood_21 rfl 0 rfl rfl ?_
      refine g_aload_n X dX7_layGood_22 rfl 1 rfl rfl ?_
      refine gM_get_good X dX7_layGood_23 hinX70 hl23 rfl ?_
      refine g_iload_n X dX7_layGood_26 rfl 0 rfl rfl ?_
      refine gM_ld_good X dX7_layGood_27 (by first | rfl | assumption) (by omega) rfl ?_
      refine gM_st_wasGood X rfl dX7_layGood_28 (by first | rfl | assumption) (by omega) (by rw [fgI_lt (by omega)]; exact b2i_vnar _) rfl ?_
      refine g_iinc (v := nI (i + 1)) X [(1, _), (0, _)] dX7_layGood_29 0 rfl (nI_add (i) 1) (by decide) rfl rfl ?_
      refine g_goto X dX7_layGood_32 6 (by decide) ?_
      refine g_ws (wM_fw cpI_s) ?_
      exact ih (mk - (i + 1)) (by omega) (i + 1) (by omega) rfl
  refine g_ws (wM_fw (cpI_0 (fgI fa fg mk) fw).symm) ?_
  exact L6 mk 0 (by omega) (by omega)

set_option maxHeartbeats 4000000 in
set_option maxRecDepth 100000 in
theorem c_X7_goes (l : Launch) (D : DT) (a : Nat → Nat) (fa fp fs fv fg fw fd ft fn : Nat → Int32) (p1 pm wk dm sp iw od : Int32) (mk : Nat) (h40 : mk ≤ 40) (hdo : ∀ k, k < 60 → fa (16 + k) = -6 ∨ ∃ s : Nat, s < mk ∧ fa (16 + k) = nI s) (q : Nat) (hq : q < 9) (hno : noOK fa q) (x : Int32) : MR l yX7_goes wsX7_goes 1 22 D [.ref (a 0), .int (nI q), .int x] (wM D a fa fp fs fv fg fw fd ft fn p1 pm wk dm sp iw od) (fun v => v = some (.int (b2i (goesM fa fg fw x q)))) := by
  refine MR.of (cc := cX7_goes) (maxL := 4) (ret := (some .boolean)) (lv := [(0, .ref (a 0)), (1, .int (nI q)), (2, .int x)]) (by decide +kernel) rfl (Nat.le_of_ble_eq_true rfl) rfl ?_
  intro p e s m below meth c A X hr hmn
  have hinX70 : ∀ w ∈ wsX70, w ∈ wsX7_goes := fun w h => List.mem_cons_of_mem _ (List.mem_append_right _ h)
  have hl7 := List.mem_of_getElem? (l := wsX7_goes) (i := 1) rfl
  have hl26 := List.mem_of_getElem? (l := wsX7_goes) (i := 2) rfl
  have hl23 := List.mem_of_getElem? (l := wsX7_goes) (i := 3) rfl
  obtain ⟨⟨g, hg, eg⟩, ⟨d, hd, ed⟩⟩ := hno
  have hcg : (noteM fa q 0).toNatClampNeg = g := by rw [eg]; exact nI_clamp (by omega)
  have hcd : (noteM fa q 1).toNatClampNeg = d := by rw [ed]; exact nI_clamp (by omega)
  refine g_aload_n X dX7_goes_0 rfl 0 rfl rfl ?_
  refine g_aload_n X dX7_goes_1 rfl 0 rfl rfl ?_
  refine g_iload_n X dX7_goes_2 rfl 1 rfl rfl ?_
  refine g_iconst (v := (0 : Int32)) X dX7_goes_3 (by decide) rfl ?_
  refine g_callVRs (n := 2) (As := [_, _]) (rest := [_]) X (c_X7_ofNote l D _ _ _ _ _ _ _ _ _ _ _ _ _ _ _ _ _  (q) (0) (by omega) (by omega)) gX7_goes_X7_ofNote rfl (by decide +kernel) ⟨Nat.le_of_ble_eq_true rfl, Nat.le_of_ble_eq_true rfl⟩ rfl rfl  rfl rfl (Nat.le_of_ble_eq_true rfl) dX7_goes_4 ⟨Nat.le_of_ble_eq_true rfl, Nat.le_of_ble_eq_true rfl⟩ rfl (fun v hv => ?_)
  obtain rfl := hv
  refine g_st (st' := [_, _]) rfl ?_
  refine g_topi (eg) ?_
  refine g_aload_n X dX7_goes_7 rfl 0 rfl rfl ?_
  refine g_iload_n X dX7_goes_8 rfl 1 rfl rfl ?_
  refine g_iconst (v := (1 : Int32)) X dX7_goes_9 (by decide) rfl ?_
  refine g_callVRs (n := 2) (As := [_, _]) (rest := [_, _]) X (c_X7_ofNote l D _ _ _ _ _ _ _ _ _ _ _ _ _ _ _ _ _  (q) (1) (by omega) (by omega)) gX7_goes_X7_ofNote rfl (by decide +kernel) ⟨Nat.le_of_ble_eq_true rfl, Nat.le_of_ble_eq_true rfl⟩ rfl rfl  rfl rfl (Nat.le_of_ble_eq_true rfl) dX7_goes_10 ⟨Nat.le_of_ble_eq_true rfl, Nat.le_of_ble_eq_true rfl⟩ rfl (fun v hv => ?_)
  obtain rfl := hv
  refine g_st (st' := [_, _, _]) rfl ?_
  refine g_topi (ed) ?_
  refine g_callVRs (n := 2) (As := [_, _]) (rest := []) X (c_X7_leadsBy l D _ _ _ _ _ _ _ _ _ _ _ _ _ _ _ _ _  (g) (d) (by omega) (by omega)) gX7_goes_X7_leadsBy rfl (by decide +kernel) ⟨Nat.le_of_ble_eq_true rfl, Nat.le_of_ble_eq_true rfl⟩ rfl rfl  rfl rfl (Nat.le_of_ble_eq_true rfl) dX7_goes_13 ⟨Nat.le_of_ble_eq_true rfl, Nat.le_of_ble_eq_true rfl⟩ rfl (fun v hv => ?_)
  obtain rfl := hv
  refine g_st (st' := [_]) rfl ?_
  clear eg ed
  refine g_istore_n X [(3, _), (0, _), (1, _), (2, _)] dX7_goes_16 rfl (by decide) rfl rfl ?_
  refine g_aload_n X dX7_goes_17 rfl 1 rfl rfl ?_
  refine gM_get_at X dX7_goes_18 hinX70 hl7 rfl ?_
  refine g_iconst (v := (2 : Int32)) X dX7_goes_21 (by decide) rfl ?_
  refine gM_ld_at X dX7_goes_22 (k := 2) rfl (by decide) rfl ?_
  refine g_if_eq X dX7_goes_23 71 (by decide) rfl (fun h23 => ?_) (fun h23 => ?_)
  · refine g_iconst (v := (1 : Int32)) X dX7_goes_71 (by decide) rfl ?_
    refine g_goto X dX7_goes_72 76 (by decide) ?_
    refine g_retR X hr (by first | rfl | exact b2i_nar _) dX7_goes_76 ?_
    first | exact ret_1 (by simp [goesM, ledBy, *]) | exact ret_0 (by simp [goesM, ledBy, *])
  · refine g_aload_n X dX7_goes_26 rfl 1 rfl rfl ?_
    refine gM_get_at X dX7_goes_27 hinX70 hl7 rfl ?_
    refine g_iconst (v := (2 : Int32)) X dX7_goes_30 (by decide) rfl ?_
    refine gM_ld_at X dX7_goes_31 (k := 2) rfl (by decide) rfl ?_
    refine g_iconst (v := (1 : Int32)) X dX7_goes_32 (by decide) rfl ?_
    refine g_icmp_ne X dX7_goes_33 49 (by decide) rfl (fun h33 => ?_) (fun h33 => ?_)
    · refine g_iload_n X dX7_goes_49 rfl 0 rfl rfl ?_
      refine g_if_lt X dX7_goes_50 75 (by decide) rfl (fun h50 => ?_) (fun h50 => ?_)
      · have i50 : _ < (0 : Int) := ic_lt h50
        refine g_iconst (v := (0 : Int32)) X dX7_goes_75 (by decide) rfl ?_
        refine g_retR X hr (by first | rfl | exact b2i_nar _) dX7_goes_76 ?_
        first | exact ret_1 (by simp [goesM, ledBy, *]) | exact ret_0 (by simp [goesM, ledBy, *])
      · have i50 : (0 : Int) ≤ _ := ic_nlt h50
        have hl0 : ledM fa g d = -6 ∨ ∃ s : Nat, s < mk ∧ ledM fa g d = nI s := hdo (10 * g + d) (by omega)
        obtain ⟨t, ht, et⟩ := hl0.resolve_left (fun e => by rw [e] at h50; exact absurd h50 (by decide))
        have hct : (ledM fa g d).toNatClampNeg = t := by rw [et]; exact nI_clamp (by omega)
        have hnt : ¬ ledM fa g d < 0 := by rw [et]; exact nI_pos (by omega)
        rw [et]
        clear et
        refine g_aload_n X dX7_goes_53 rfl 1 rfl rfl ?_
        refine gM_get_wasGood X dX7_goes_54 hinX70 hl26 rfl ?_
        refine g_iload_n X dX7_goes_57 rfl 0 rfl rfl ?_
        refine gM_ld_wasGood X dX7_goes_58 (by first | rfl | assumption) (by omega) rfl ?_
        refine g_if_eq X dX7_goes_59 75 (by decide) rfl (fun h59 => ?_) (fun h59 => ?_)
        · refine g_iconst (v := (0 : Int32)) X dX7_goes_75 (by decide) rfl ?_
          refine g_retR X hr (by first | rfl | exact b2i_nar _) dX7_goes_76 ?_
          first | exact ret_1 (by simp [goesM, ledBy, *]) | exact ret_0 (by simp [goesM, ledBy, *])
        · refine g_aload_n X dX7_goes_62 rfl 1 rfl rfl ?_
          refine gM_get_good X dX7_goes_63 hinX70 hl23 rfl ?_
          refine g_iload_n X dX7_goes_66 rfl 0 rfl rfl ?_
          refine gM_ld_good X dX7_goes_67 (by first | rfl | assumption) (by omega) rfl ?_
          refine g_if_ne X dX7_goes_68 75 (by decide) rfl (fun h68 => ?_) (fun h68 => ?_)
          · refine g_iconst (v := (0 : Int32)) X dX7_goes_75 (by decide) rfl ?_
            refine g_retR X hr (by first | rfl | exact b2i_nar _) dX7_goes_76 ?_
            first | exact ret_1 (by simp [goesM, ledBy, *]) | exact ret_0 (by simp [goesM, ledBy, *])
          · refine g_iconst (v := (1 : Int32)) X dX7_goes_71 (by decide) rfl ?_
            refine g_goto X dX7_goes_72 76 (by decide) ?_
            refine g_retR X hr (by first | rfl | exact b2i_nar _) dX7_goes_76 ?_
            first | exact ret_1 (by simp [goesM, ledBy, *]) | exact ret_0 (by simp [goesM, ledBy, *])
    · refine g_aload_n X dX7_goes_36 rfl 1 rfl rfl ?_
      refine g_iload_n X dX7_goes_37 rfl 2 rfl rfl ?_
      refine g_iconst (v := (3 : Int32)) X dX7_goes_38 (by decide) rfl ?_
      refine g_callVRs (n := 2) (As := [_, _]) (rest := []) X (c_X7_ofNote l D _ _ _ _ _ _ _ _ _ _ _ _ _ _ _ _ _  (q) (3) (by omega) (by omega)) gX7_goes_X7_ofNote rfl (by decide +kernel) ⟨Nat.le_of_ble_eq_true rfl, Nat.le_of_ble_eq_true rfl⟩ rfl rfl  rfl rfl (Nat.le_of_ble_eq_true rfl) dX7_goes_39 ⟨Nat.le_of_ble_eq_true rfl, Nat.le_of_ble_eq_true rfl⟩ rfl (fun v hv => ?_)
      obtain rfl := hv
      refine g_st (st' := [_]) rfl ?_
      refine g_iload_n X dX7_goes_42 rfl 3 rfl rfl ?_
      refine g_icmp_ne X dX7_goes_43 75 (by decide) rfl (fun h43 => ?_) (fun h43 => ?_)
      · refine g_iconst (v := (0 : Int32)) X dX7_goes_75 (by decide) rfl ?_
        refine g_retR X hr (by first | rfl | exact b2i_nar _) dX7_goes_76 ?_
        first | exact ret_1 (by simp [goesM, ledBy, *]) | exact ret_0 (by simp [goesM, ledBy, *])
      · refine g_goto X dX7_goes_46 71 (by decide) ?_
        refine g_iconst (v := (1 : Int32)) X dX7_goes_71 (by decide) rfl ?_
        refine g_goto X dX7_goes_72 76 (by decide) ?_
        refine g_retR X hr (by first | rfl | exact b2i_nar _) dX7_goes_76 ?_
        first | exact ret_1 (by simp [goesM, ledBy, *]) | exact ret_0 (by simp [goesM, ledBy, *])

set_option maxHeartbeats 4000000 in
set_option maxRecDepth 100000 in
theorem c_X7_wipeBy (l : Launch) (D : DT) (a : Nat → Nat) (fa fp fs fv fg fw fd ft fn : Nat → Int32) (p1 pm wk dm sp iw od : Int32) (mk : Nat) (hmk : fa 76 = nI mk) (h40 : mk ≤ 40) (hst : ∀ s, s < mk → stOK fa s) (nn : Nat) (hnn : fa 90 = nI nn) (h9 : nn ≤ 9) (hdo : ∀ k, k < 60 → fa (16 + k) = -6 ∨ ∃ s : Nat, s < mk ∧ fa (16 + k) = nI s) (hnk : ∀ k, k < nn → noOK fa k) (x : Int32) : MW l yX7_wipeBy wsX7_wipeBy 3 67 0 0 D [.ref (a 0), .int x] (wM D a fa fp fs fv fg fw fd ft fn p1 pm wk dm sp iw od) (fun v w => v = some (.int (wkN (goesM fa (fgI fa fg mk) fw x) fa nn)) ∧ w = (wM D a (wkF (goesM fa (fgI fa fg mk) fw x) fa nn) fp fs fv (fgI fa fg mk) fw fd ft fn p1 pm wk dm sp iw od)) := by
  refine MW.of (cc := cX7_wipeBy) (maxL := 4) (ret := (some .int)) (lv := [(0, .ref (a 0)), (1, .int x)]) (by decide +kernel) rfl (Nat.le_of_ble_eq_true rfl) rfl ?_
  intro p e s m below meth c A hAe hAg X hr hmn
  have hinX70 : ∀ w ∈ wsX70, w ∈ wsX7_wipeBy := fun w h => List.mem_cons_of_mem _ (List.mem_append_right _ h)
  have hl7 := List.mem_of_getElem? (l := wsX7_wipeBy) (i := 1) rfl
  refine g_aload_n X dX7_wipeBy_0 rfl 0 rfl rfl ?_
  refine g_callVWs (n := 0) (As := []) (rest := []) X hAg rfl (c_X7_findGood l D _ _ _ _ _ _ _ _ _ _ _ _ _ _ _ _ _  mk hmk h40 hst) gX7_wipeBy_X7_findGood rfl (by decide +kernel) ⟨Nat.le_of_ble_eq_true rfl, Nat.le_of_ble_eq_true rfl⟩ rfl rfl  rfl rfl (Nat.le_of_ble_eq_true rfl) dX7_wipeBy_1 ⟨Nat.le_of_ble_eq_true rfl, Nat.le_of_ble_eq_true rfl⟩ rfl (fun v w hv => ?_)
  obtain ⟨rfl, rfl⟩ := hv
  refine ⟨rfl, ?_⟩
  refine g_st (st' := []) rfl ?_
  refine g_iconst (v := (0 : Int32)) X dX7_wipeBy_4 (by decide) rfl ?_
  refine g_istore_n X [(2, _), (0, _), (1, _)] dX7_wipeBy_5 rfl (by decide) rfl rfl ?_
  refine g_aload_n X dX7_wipeBy_6 rfl 1 rfl rfl ?_
  refine gM_get_at X dX7_wipeBy_7 hinX70 hl7 rfl ?_
  refine g_bipush (v := (90 : Int32)) X dX7_wipeBy_10 (by decide) rfl ?_
  refine gM_ld_at X dX7_wipeBy_12 (k := 90) rfl (by decide) rfl ?_
  refine g_topi hnn ?_
  refine g_iconst (v := (1 : Int32)) X dX7_wipeBy_13 (by decide) rfl ?_
  refine g_isub X dX7_wipeBy_14 rfl ?_
  refine g_istore_n X [(3, _), (2, _), (0, _), (1, _)] dX7_wipeBy_15 rfl (by decide) rfl rfl ?_
  have L16 : ∀ (j : Nat) (f1 : Nat → Int32) (m1 k : Nat) (hj : j ≤ m1) (hjn : j ≤ nn) (hm9 : m1 ≤ 9) (hn1 : f1 90 = nI m1) (hno : ∀ i w, i < j → w < 4 → noteM f1 i w = noteM fa i w) (hlo : ∀ m, m < 90 → f1 m = fa m) (hk : k + j ≤ 9) (hR : wkI (goesM fa (fgI fa fg mk) fw x) j f1 m1 k = wkI (goesM fa (fgI fa fg mk) fw x) nn fa nn 0), GG p l e (wRoom 3 67 0 0) s m ([.ref (a 0), .int x] : List Value).toArray below meth c D A 4 false 0 0 (MQ below (wrQ D (wM D a fa fp fs fv fg fw fd ft fn p1 pm wk dm sp iw od) s.heap.size (fun v w => v = some (.int (wkN (goesM fa (fgI fa fg mk) fw x) fa nn)) ∧ w = (wM D a (wkF (goesM fa (fgI fa fg mk) fw x) fa nn) fp fs fv (fgI fa fg mk) fw fd ft fn p1 pm wk dm sp iw od))) ([.ref (a 0), .int x] : List Value).toArray s 0 0 (va_A (wM D a fa fp fs fv fg fw fd ft fn p1 pm wk dm sp iw od) s.heap.size)) (wM D a f1 fp fs fv (fgI fa fg mk) fw fd ft fn p1 pm wk dm sp iw od) 16 [(3, .int (nI j - 1)), (2, .int (nI k)), (0, .ref (a 0)), (1, .int x)] [] := by
    intro j
    induction j using Nat.strongRecOn with
    | _ j ih =>
    intro f1 m1 k hj hjn hm9 hn1 hno hlo hk hR
    refine g_iload_n X dX7_wipeBy_16 rfl 0 rfl rfl ?_
    refine g_if_lt X dX7_wipeBy_17 43 (by decide) rfl (fun h17 => ?_) (fun h17 => ?_)
    · have i17 : _ < (0 : Int) := ic_lt h17
      have hj0 : j = 0 := by rw [mk_m1 (by omega)] at i17; omega
      subst hj0
      refine g_aload_n X dX7_wipeBy_43 rfl 2 rfl rfl ?_
      refine gM_get_at X dX7_wipeBy_44 hinX70 hl7 rfl ?_
      refine g_bipush (v := (81 : Int32)) X dX7_wipeBy_47 (by decide) rfl ?_
      refine g_dup2 X dX7_wipeBy_49 rfl rfl rfl ?_
      refine gM_ld_at X dX7_wipeBy_50 (k := 81) rfl (by decide) rfl ?_
      refine g_iload_n X dX7_wipeBy_51 rfl 1 rfl rfl ?_
      refine g_iadd X dX7_wipeBy_52 rfl ?_
      refine gM_st_at X rfl dX7_wipeBy_53 (k := 81) rfl (by decide) rfl ?_
      refine g_iload_n X dX7_wipeBy_54 rfl 1 rfl rfl ?_
      refine g_retW X hr (by first | rfl | exact b2i_nar _) dX7_wipeBy_55 hAe ?_
      unfold wkN wkF
      rw [← hR]
      exact ⟨rfl, rfl⟩
    · have i17 : (0 : Int) ≤ _ := ic_nlt h17
      have hj1 : 0 < j := by rw [mk_m1 (by omega)] at i17; omega
      obtain ⟨q, rfl⟩ : ∃ q, j = q + 1 := ⟨j - 1, by omega⟩
      rw [nI_pred]
      refine g_aload_n X dX7_wipeBy_20 rfl 2 rfl rfl ?_
      refine g_iload_n X dX7_wipeBy_21 rfl 0 rfl rfl ?_
      refine g_iload_n X dX7_wipeBy_22 rfl 3 rfl rfl ?_
      refine g_callVRs (n := 2) (As := [_, _]) (rest := []) X (c_X7_goes l D _ _ _ _ _ _ _ _ _ _ _ _ _ _ _ _ _  mk h40 (fun k hk => by rw [hlo _ (by omega)]; exact hdo k hk) (q) (by omega) (noOK_c (fun w hw => hno _ w (by omega) hw) (hnk _ (by omega))) x) gX7_wipeBy_X7_goes rfl (by decide +kernel) ⟨Nat.le_of_ble_eq_true rfl, Nat.le_of_ble_eq_true rfl⟩ rfl rfl  rfl rfl (Nat.le_of_ble_eq_true rfl) dX7_wipeBy_23 ⟨Nat.le_of_ble_eq_true rfl, Nat.le_of_ble_eq_true rfl⟩ rfl (fun v hv => ?_)
      obtain rfl := hv
      refine g_st (st' := [_]) rfl ?_
      rw [goesM_c hlo (fun w hw => hno q w (by omega) hw) (hnk q (by omega))]
      refine g_if_eq X dX7_wipeBy_26 37 (by decide) rfl (fun h26 => ?_) (fun h26 => ?_)
      · replace h26 := b2i_0 h26
        refine g_iinc (v := nI q - 1) X [(3, _), (2, _), (0, _), (1, _)] dX7_wipeBy_37 0 rfl (iinc_m1 _) (by decide) rfl rfl ?_
        refine g_goto X dX7_wipeBy_40 16 (by decide) ?_
        first
        | exact ih q (by omega) f1 m1 k (by omega) (by omega) (by omega) hn1 (fun i w hi hw => hno i w (by omega) hw) hlo (by omega) (by rw [← hR, wkI, if_neg (by simp [*])])
        | exact ih q (by omega) (tkF f1 m1 q) (m1 - 1) (k + 1) (by omega) (by omega) (by omega) tkF_90 (fun i w hi hw => by rw [tkF_no hi hw]; exact hno i w (by omega) hw) (fun m hm => by rw [tkF_lo (by omega)]; exact hlo m hm) (by omega) (by rw [← hR, wkI, if_pos (by simp [*])])
      · replace h26 := b2i_n0 h26
        refine g_aload_n X dX7_wipeBy_29 rfl 2 rfl rfl ?_
        refine g_iload_n X dX7_wipeBy_30 rfl 0 rfl rfl ?_
        refine g_callVWs (n := 1) (As := [_]) (rest := []) X hAg rfl (c_X7_takeNote l D _ _ _ _ _ _ _ _ _ _ _ _ _ _ _ _ _  m1 (q) hn1 (by omega) (by omega)) gX7_wipeBy_X7_takeNote rfl (by decide +kernel) ⟨Nat.le_of_ble_eq_true rfl, Nat.le_of_ble_eq_true rfl⟩ rfl rfl  rfl rfl (Nat.le_of_ble_eq_true rfl) dX7_wipeBy_31 ⟨Nat.le_of_ble_eq_true rfl, Nat.le_of_ble_eq_true rfl⟩ rfl (fun v w hv => ?_)
        obtain ⟨rfl, rfl⟩ := hv
        refine ⟨rfl, ?_⟩
        refine g_st (st' := []) rfl ?_
        refine g_iinc (v := nI (k + 1)) X [(2, _), (3, _), (0, _), (1, _)] dX7_wipeBy_34 1 rfl (nI_add (k) 1) (by decide) rfl rfl ?_
        refine g_iinc (v := nI q - 1) X [(3, _), (2, _), (0, _), (1, _)] dX7_wipeBy_37 1 rfl (iinc_m1 _) (by decide) rfl rfl ?_
        refine g_goto X dX7_wipeBy_40 16 (by decide) ?_
        first
        | exact ih q (by omega) f1 m1 k (by omega) (by omega) (by omega) hn1 (fun i w hi hw => hno i w (by omega) hw) hlo (by omega) (by rw [← hR, wkI, if_neg (by simp [*])])
        | exact ih q (by omega) (tkF f1 m1 q) (m1 - 1) (k + 1) (by omega) (by omega) (by omega) tkF_90 (fun i w hi hw => by rw [tkF_no hi hw]; exact hno i w (by omega) hw) (fun m hm => by rw [tkF_lo (by omega)]; exact hlo m hm) (by omega) (by rw [← hR, wkI, if_pos (by simp [*])])
  exact L16 nn fa nn 0 (by omega) (by omega) h9 hnn (fun _ _ _ _ => rfl) (fun _ _ => rfl) (by omega) rfl

set_option maxHeartbeats 4000000 in
set_option maxRecDepth 100000 in
theorem c_X7_keep (l : Launch) (D : DT) (a : Nat → Nat) (fa fp fs fv fg fw fd ft fn : Nat → Int32) (wk : Int32) (dm : Int32) (sp : Int32) (iw : Int32) (od : Int32) (i1 km : Nat) (hi1 : i1 < 6) (hm : km ≤ 6) : MW l yX7_keep wsX7_keep 0 0 0 0 D [.ref (a 0)] (wM D a fa fp fs fv fg fw fd ft fn (nI i1) (nI km) wk dm sp iw od) (fun v w => v = none ∧ w = (wM D a fa (kpF fa fp ((kpA i1 km + kpB km) % 6)) fs fv fg fw fd ft fn (nI (kpA i1 km)) (nI (kpB km + 1)) wk dm sp iw od)) := by
  refine MW.of (cc := cX7_keep) (maxL := 3) (ret := none) (lv := [(0, .ref (a 0))]) (by decide +kernel) rfl (Nat.le_of_ble_eq_true rfl) rfl ?_
  intro p e s m below meth c A hAe hAg X hr hmn
  have hinX70 : ∀ w ∈ wsX70, w ∈ wsX7_keep := fun w h => List.mem_cons_of_mem _ (List.mem_append_right _ h)
  have hl46 := List.mem_of_getElem? (l := wsX7_keep) (i := 1) rfl
  have hl50 := List.mem_of_getElem? (l := wsX7_keep) (i := 2) rfl
  have hl13 := List.mem_of_getElem? (l := wsX7_keep) (i := 3) rfl
  have hl7 := List.mem_of_getElem? (l := wsX7_keep) (i := 4) rfl
  refine g_aload_n X dX7_keep_0 rfl 0 rfl rfl ?_
  refine gM_get_pastMany X dX7_keep_1 hinX70 hl46 rfl ?_
  refine g_bipush (v := (6 : Int32)) X dX7_keep_4 (by decide) rfl ?_
  refine g_icmp_ne X dX7_keep_6 32 (by decide) rfl (fun h6 => ?_) (fun h6 => ?_)
  · have i6 := nj_ne (a := km) (b := 6) (by omega) (by omega) h6
    refine g_ws (ws' := (wM D a fa fp fs fv fg fw fd ft fn (nI (kpA i1 km)) (nI (kpB km)) wk dm sp iw od)) (by simp [kpA, kpB, i6]) ?_
    have hA6 := kpA_lt (m := km) hi1
    have hB6 := kpB_lt hm
    refine g_aload_n X dX7_keep_32 rfl 0 rfl rfl ?_
    refine gM_get_pastFirst X dX7_keep_33 hinX70 hl50 rfl ?_
    refine g_aload_n X dX7_keep_36 rfl 0 rfl rfl ?_
    refine gM_get_pastMany X dX7_keep_37 hinX70 hl46 rfl ?_
    refine g_iadd X dX7_keep_40 rfl ?_
    refine g_topi (y := nI ((kpA i1 km) + (kpB km))) (nI_add ((kpA i1 km)) ((kpB km))) ?_
    refine g_bipush (v := (6 : Int32)) X dX7_keep_41 (by decide) rfl ?_
    refine g_irem X dX7_keep_43 (by decide) rfl ?_
    refine g_topi (pk_rem (a := kpA i1 km + kpB km) (d := 6) (by omega) (by omega) (by omega)) ?_
    refine g_istore_n X [(1, _), (0, _)] dX7_keep_44 rfl (by decide) rfl rfl ?_
    refine g_iconst (v := (0 : Int32)) X dX7_keep_45 (by decide) rfl ?_
    refine g_istore_n X [(2, _), (1, _), (0, _)] dX7_keep_46 rfl (by decide) rfl rfl ?_
    have L47 : ∀ (n : Nat) (i : Nat) (hi : i ≤ 407) (hn : 407 - i = n), GG p l e (wRoom 0 0 0 0) s m ([.ref (a 0)] : List Value).toArray below meth c D A 3 false 0 0 (MQ below (wrQ D (wM D a fa fp fs fv fg fw fd ft fn (nI i1) (nI km) wk dm sp iw od) s.heap.size (fun v w => v = none ∧ w = (wM D a fa (kpF fa fp ((kpA i1 km + kpB km) % 6)) fs fv fg fw fd ft fn (nI (kpA i1 km)) (nI (kpB km + 1)) wk dm sp iw od))) ([.ref (a 0)] : List Value).toArray s 0 0 (va_A (wM D a fa fp fs fv fg fw fd ft fn (nI i1) (nI km) wk dm sp iw od) s.heap.size)) (wM D a fa (kpI fa fp ((kpA i1 km + kpB km) % 6) i) fs fv fg fw fd ft fn (nI (kpA i1 km)) (nI (kpB km)) wk dm sp iw od) 47 [(2, .int (nI i)), (1, .int (nI ((kpA i1 km + kpB km) % 6))), (0, .ref (a 0))] [] := by
      intro n
      induction n using Nat.strongRecOn with
      | _ n ih =>
      intro i hi hn
      refine g_iload_n X dX7_keep_47 rfl 0 rfl rfl ?_
      refine g_sipush (v := (407 : Int32)) X dX7_keep_48 (by decide) rfl ?_
      refine g_icmp_ge X dX7_keep_51 78 (by decide) rfl (fun h51 => ?_) (fun h51 => ?_)
      · have i51 := nj_le (a := 407) (b := i) (by omega) (by omega) h51
        refine g_aload_n X dX7_keep_78 rfl 2 rfl rfl ?_
        refine g_dup X dX7_keep_79 rfl rfl ?_
        refine gM_get_pastMany X dX7_keep_80 hinX70 hl46 rfl ?_
        refine g_iconst (v := (1 : Int32)) X dX7_keep_83 (by decide) rfl ?_
        refine g_iadd X dX7_keep_84 rfl ?_
        refine g_topi (y := nI ((kpB km) + 1)) (nI_add ((kpB km)) (1)) ?_
        refine gM_put_pastMany X rfl dX7_keep_85 hinX70 hl46 rfl ?_
        refine g_vretW X hr dX7_keep_88 hAe ?_
        have hii : i = 407 := by omega
        subst hii
        exact ⟨rfl, rfl⟩
      · have i51 := nj_nle (a := 407) (b := i) (by omega) (by omega) h51
        refine g_aload_n X dX7_keep_54 rfl 2 rfl rfl ?_
        refine gM_get_past X dX7_keep_55 hinX70 hl13 rfl ?_
        refine g_sipush (v := (407 : Int32)) X dX7_keep_58 (by decide) rfl ?_
        refine g_iload_n X dX7_keep_61 rfl 1 rfl rfl ?_
        refine g_imul X dX7_keep_62 rfl ?_
        refine g_topi (y := nI (407 * ((kpA i1 km + kpB km) % 6))) (pk_mul (407) (((kpA i1 km + kpB km) % 6))) ?_
        refine g_iload_n X dX7_keep_63 rfl 0 rfl rfl ?_
        refine g_iadd X dX7_keep_64 rfl ?_
        refine g_topi (y := nI ((407 * ((kpA i1 km + kpB km) % 6)) + i)) (nI_add ((407 * ((kpA i1 km + kpB km) % 6))) (i)) ?_
        refine g_aload_n X dX7_keep_65 rfl 2 rfl rfl ?_
        refine gM_get_at X dX7_keep_66 hinX70 hl7 rfl ?_
        refine g_iload_n X dX7_keep_69 rfl 0 rfl rfl ?_
        refine gM_ld_at X dX7_keep_70 (by first | rfl | assumption) (by omega) rfl ?_
        refine gM_st_past X rfl dX7_keep_71 (by first | rfl | assumption) (by omega) rfl ?_
        refine g_iinc (v := nI (i + 1)) X [(2, _), (1, _), (0, _)] dX7_keep_72 0 rfl (nI_add (i) 1) (by decide) rfl rfl ?_
        refine g_goto X dX7_keep_75 47 (by decide) ?_
        refine g_ws (wM_fp kpI_s) ?_
        exact ih (407 - (i + 1)) (by omega) (i + 1) (by omega) rfl
    refine g_ws (wM_fp (kpI_0 fa fp ((kpA i1 km + kpB km) % 6)).symm) ?_
    exact L47 _ 0 (by omega) rfl
  · have i6 := nj_eq (a := km) (b := 6) (by omega) (by omega) h6
    refine g_aload_n X dX7_keep_9 rfl 0 rfl rfl ?_
    refine g_aload_n X dX7_keep_10 rfl 0 rfl rfl ?_
    refine gM_get_pastFirst X dX7_keep_11 hinX70 hl50 rfl ?_
    refine g_iconst (v := (1 : Int32)) X dX7_keep_14 (by decide) rfl ?_
    refine g_iadd X dX7_keep_15 rfl ?_
    refine g_topi (y := nI (i1 + 1)) (nI_add (i1) (1)) ?_
    refine g_bipush (v := (6 : Int32)) X dX7_keep_16 (by decide) rfl ?_
    refine g_irem X dX7_keep_18 (by decide) rfl ?_
    refine g_topi (pk_rem (a := i1 + 1) (d := 6) (by omega) (by omega) (by omega)) ?_
    refine gM_put_pastFirst X rfl dX7_keep_19 hinX70 hl50 rfl ?_
    refine g_aload_n X dX7_keep_22 rfl 0 rfl rfl ?_
    refine g_dup X dX7_keep_23 rfl rfl ?_
    refine gM_get_pastMany X dX7_keep_24 hinX70 hl46 rfl ?_
    refine g_iconst (v := (1 : Int32)) X dX7_keep_27 (by decide) rfl ?_
    refine g_isub X dX7_keep_28 rfl ?_
    refine g_topi (pk_sub (a := km) (b := 1) (by omega)) ?_
    refine gM_put_pastMany X rfl dX7_keep_29 hinX70 hl46 rfl ?_
    refine g_ws (ws' := (wM D a fa fp fs fv fg fw fd ft fn (nI (kpA i1 km)) (nI (kpB km)) wk dm sp iw od)) (by simp [kpA, kpB, i6]) ?_
    have hA6 := kpA_lt (m := km) hi1
    have hB6 := kpB_lt hm
    refine g_aload_n X dX7_keep_32 rfl 0 rfl rfl ?_
    refine gM_get_pastFirst X dX7_keep_33 hinX70 hl50 rfl ?_
    refine g_aload_n X dX7_keep_36 rfl 0 rfl rfl ?_
    refine gM_get_pastMany X dX7_keep_37 hinX70 hl46 rfl ?_
    refine g_iadd X dX7_keep_40 rfl ?_
    refine g_topi (y := nI ((kpA i1 km) + (kpB km))) (nI_add ((kpA i1 km)) ((kpB km))) ?_
    refine g_bipush (v := (6 : Int32)) X dX7_keep_41 (by decide) rfl ?_
    refine g_irem X dX7_keep_43 (by decide) rfl ?_
    refine g_topi (pk_rem (a := kpA i1 km + kpB km) (d := 6) (by omega) (by omega) (by omega)) ?_
    refine g_istore_n X [(1, _), (0, _)] dX7_keep_44 rfl (by decide) rfl rfl ?_
    refine g_iconst (v := (0 : Int32)) X dX7_keep_45 (by decide) rfl ?_
    refine g_istore_n X [(2, _), (1, _), (0, _)] dX7_keep_46 rfl (by decide) rfl rfl ?_
    have L47 : ∀ (n : Nat) (i : Nat) (hi : i ≤ 407) (hn : 407 - i = n), GG p l e (wRoom 0 0 0 0) s m ([.ref (a 0)] : List Value).toArray below meth c D A 3 false 0 0 (MQ below (wrQ D (wM D a fa fp fs fv fg fw fd ft fn (nI i1) (nI km) wk dm sp iw od) s.heap.size (fun v w => v = none ∧ w = (wM D a fa (kpF fa fp ((kpA i1 km + kpB km) % 6)) fs fv fg fw fd ft fn (nI (kpA i1 km)) (nI (kpB km + 1)) wk dm sp iw od))) ([.ref (a 0)] : List Value).toArray s 0 0 (va_A (wM D a fa fp fs fv fg fw fd ft fn (nI i1) (nI km) wk dm sp iw od) s.heap.size)) (wM D a fa (kpI fa fp ((kpA i1 km + kpB km) % 6) i) fs fv fg fw fd ft fn (nI (kpA i1 km)) (nI (kpB km)) wk dm sp iw od) 47 [(2, .int (nI i)), (1, .int (nI ((kpA i1 km + kpB km) % 6))), (0, .ref (a 0))] [] := by
      intro n
      induction n using Nat.strongRecOn with
      | _ n ih =>
      intro i hi hn
      refine g_iload_n X dX7_keep_47 rfl 0 rfl rfl ?_
      refine g_sipush (v := (407 : Int32)) X dX7_keep_48 (by decide) rfl ?_
      refine g_icmp_ge X dX7_keep_51 78 (by decide) rfl (fun h51 => ?_) (fun h51 => ?_)
      · have i51 := nj_le (a := 407) (b := i) (by omega) (by omega) h51
        refine g_aload_n X dX7_keep_78 rfl 2 rfl rfl ?_
        refine g_dup X dX7_keep_79 rfl rfl ?_
        refine gM_get_pastMany X dX7_keep_80 hinX70 hl46 rfl ?_
        refine g_iconst (v := (1 : Int32)) X dX7_keep_83 (by decide) rfl ?_
        refine g_iadd X dX7_keep_84 rfl ?_
        refine g_topi (y := nI ((kpB km) + 1)) (nI_add ((kpB km)) (1)) ?_
        refine gM_put_pastMany X rfl dX7_keep_85 hinX70 hl46 rfl ?_
        refine g_vretW X hr dX7_keep_88 hAe ?_
        have hii : i = 407 := by omega
        subst hii
        exact ⟨rfl, rfl⟩
      · have i51 := nj_nle (a := 407) (b := i) (by omega) (by omega) h51
        refine g_aload_n X dX7_keep_54 rfl 2 rfl rfl ?_
        refine gM_get_past X dX7_keep_55 hinX70 hl13 rfl ?_
        refine g_sipush (v := (407 : Int32)) X dX7_keep_58 (by decide) rfl ?_
        refine g_iload_n X dX7_keep_61 rfl 1 rfl rfl ?_
        refine g_imul X dX7_keep_62 rfl ?_
        refine g_topi (y := nI (407 * ((kpA i1 km + kpB km) % 6))) (pk_mul (407) (((kpA i1 km + kpB km) % 6))) ?_
        refine g_iload_n X dX7_keep_63 rfl 0 rfl rfl ?_
        refine g_iadd X dX7_keep_64 rfl ?_
        refine g_topi (y := nI ((407 * ((kpA i1 km + kpB km) % 6)) + i)) (nI_add ((407 * ((kpA i1 km + kpB km) % 6))) (i)) ?_
        refine g_aload_n X dX7_keep_65 rfl 2 rfl rfl ?_
        refine gM_get_at X dX7_keep_66 hinX70 hl7 rfl ?_
        refine g_iload_n X dX7_keep_69 rfl 0 rfl rfl ?_
        refine gM_ld_at X dX7_keep_70 (by first | rfl | assumption) (by omega) rfl ?_
        refine gM_st_past X rfl dX7_keep_71 (by first | rfl | assumption) (by omega) rfl ?_
        refine g_iinc (v := nI (i + 1)) X [(2, _), (1, _), (0, _)] dX7_keep_72 0 rfl (nI_add (i) 1) (by decide) rfl rfl ?_
        refine g_goto X dX7_keep_75 47 (by decide) ?_
        refine g_ws (wM_fp kpI_s) ?_
        exact ih (407 - (i + 1)) (by omega) (i + 1) (by omega) rfl
    refine g_ws (wM_fp (kpI_0 fa fp ((kpA i1 km + kpB km) % 6)).symm) ?_
    exact L47 _ 0 (by omega) rfl

set_option maxHeartbeats 4000000 in
set_option maxRecDepth 100000 in
theorem c_X7_keepIf (l : Launch) (D : DT) (a : Nat → Nat) (fa fp fs fv fg fw fd ft fn : Nat → Int32) (wk : Int32) (dm : Int32) (sp : Int32) (iw : Int32) (od : Int32) (i1 km : Nat) (hi1 : i1 < 6) (hm : km ≤ 6) (b : Bool) : MW l yX7_keepIf wsX7_keepIf 1 22 0 0 D [.ref (a 0), .int (b2i b)] (wM D a fa fp fs fv fg fw fd ft fn (nI i1) (nI km) wk dm sp iw od) (fun v w => v = none ∧ w = (wM D a fa (kF b fa fp i1 km) fs fv fg fw fd ft fn (nI (kA b i1 km)) (nI (kM b km)) wk dm sp iw od)) := by
  refine MW.of (cc := cX7_keepIf) (maxL := 2) (ret := none) (lv := [(0, .ref (a 0)), (1, .int (b2i b))]) (by decide +kernel) rfl (Nat.le_of_ble_eq_true rfl) rfl ?_
  intro p e s m below meth c A hAe hAg X hr hmn
  have hinX70 : ∀ w ∈ wsX70, w ∈ wsX7_keepIf := fun w h => List.mem_cons_of_mem _ (List.mem_append_right _ h)
  refine g_iload_n X dX7_keepIf_0 rfl 1 rfl rfl ?_
  refine g_if_eq X dX7_keepIf_1 8 (by decide) rfl (fun h1 => ?_) (fun h1 => ?_)
  · replace h1 := b2i_0 h1
    refine g_vretW X hr dX7_keepIf_8 hAe ?_
    subst h1
    exact ⟨rfl, rfl⟩
  · replace h1 := b2i_n0 h1
    refine g_aload_n X dX7_keepIf_4 rfl 0 rfl rfl ?_
    refine g_callVWs (n := 0) (As := []) (rest := []) X hAg rfl (c_X7_keep l D _ _ _ _ _ _ _ _ _ _ _ _ _ _ _  i1 km hi1 hm) gX7_keepIf_X7_keep rfl (by decide +kernel) ⟨Nat.le_of_ble_eq_true rfl, Nat.le_of_ble_eq_true rfl⟩ rfl rfl  rfl rfl (Nat.le_of_ble_eq_true rfl) dX7_keepIf_5 ⟨Nat.le_of_ble_eq_true rfl, Nat.le_of_ble_eq_true rfl⟩ rfl (fun v w hv => ?_)
    obtain ⟨rfl, rfl⟩ := hv
    refine ⟨rfl, ?_⟩
    refine g_st (st' := []) rfl ?_
    refine g_vretW X hr dX7_keepIf_8 hAe ?_
    subst h1
    exact ⟨rfl, rfl⟩
