set_option maxHeartbeats 4000000 in
set_option maxRecDepth 100000 in
theorem c_X0_has (l : Launch) (D : DT) (a : Nat → Nat) (f : Nat → Int32) (na : Nat → Nat → Int32) (w : Nat → Int32) (n : Nat) (hn8 : f 90 = nI n) (h8 : n ≤ 8) (x : Int32) : MR l yX0_has wsX0_has 0 0 D [.ref (a 13), .int x] (wHW D a f na w) (fun v => v = some (.int (b2i (rng n x)))) := by
  have em : (nI n).toInt = (n : Int) := nI_toInt (by omega)
  refine MR.of (cc := cX0_has) (maxL := 2) (ret := (some .boolean)) (lv := [(0, .ref (a 13)), (1, .int x)]) (by decide +kernel) rfl (Nat.le_of_ble_eq_true rfl) rfl ?_
  intro p e s m below meth c A X hr hmn
  have hinX00 : ∀ w ∈ wsX00, w ∈ wsX0_has := fun w h => List.mem_cons_of_mem _ (List.mem_append_right _ h)
  have hl30 := List.mem_of_getElem? (l := wsX0_has) (i := 1) rfl
  refine g_iload_n X dX0_has_0 rfl 1 rfl rfl ?_
  refine g_if_lt X dX0_has_1 16 (by decide) rfl (fun h1 => ?_) (fun h1 => ?_)
  · have i1 : _ < (0 : Int) := ic_lt h1
    refine g_iconst (v := (0 : Int32)) X dX0_has_16 (by decide) rfl ?_
    refine g_retR X hr (by first | rfl | exact b2i_nar _) dX0_has_17 ?_
    unfold rng
    first | exact ret_t ⟨by omega, by omega⟩ | exact ret_f (by omega)
  · have i1 : (0 : Int) ≤ _ := ic_nlt h1
    refine g_iload_n X dX0_has_4 rfl 1 rfl rfl ?_
    refine g_aload_n X dX0_has_5 rfl 0 rfl rfl ?_
    refine gH_get_Board_size X dX0_has_6 hinX00 hl30 rfl ?_
    refine g_topi (show _ = nI (n) from hn8) ?_
    refine g_icmp_ge X dX0_has_9 16 (by decide) rfl (fun h9 => ?_) (fun h9 => ?_)
    · have i9 : _ ≤ _ := ic_le h9
      refine g_iconst (v := (0 : Int32)) X dX0_has_16 (by decide) rfl ?_
      refine g_retR X hr (by first | rfl | exact b2i_nar _) dX0_has_17 ?_
      unfold rng
      first | exact ret_t ⟨by omega, by omega⟩ | exact ret_f (by omega)
    · have i9 : _ < _ := ic_nle h9
      refine g_iconst (v := (1 : Int32)) X dX0_has_12 (by decide) rfl ?_
      refine g_goto X dX0_has_13 17 (by decide) ?_
      refine g_retR X hr (by first | rfl | exact b2i_nar _) dX0_has_17 ?_
      unfold rng
      first | exact ret_t ⟨by omega, by omega⟩ | exact ret_f (by omega)

set_option maxHeartbeats 4000000 in
set_option maxRecDepth 100000 in
theorem c_X0_find (l : Launch) (D : DT) (a : Nat → Nat) (f : Nat → Int32) (na : Nat → Nat → Int32) (w : Nat → Int32) (n : Nat) (hn8 : f 90 = nI n) (h8 : n ≤ 8) (hNR : NR f na n) (g d nd : Int32) : MR l yX0_find wsX0_find 0 0 D [.ref (a 13), .int g, .int d, .int nd] (wHW D a f na w) (fun v => v = some (.int (fndI (isNote f g d nd) n 0))) := by
  refine MR.of (cc := cX0_find) (maxL := 5) (ret := (some .int)) (lv := [(0, .ref (a 13)), (1, .int g), (2, .int d), (3, .int nd)]) (by decide +kernel) rfl (Nat.le_of_ble_eq_true rfl) rfl ?_
  intro p e s m below meth c A X hr hmn
  have hinX00 : ∀ w ∈ wsX00, w ∈ wsX0_find := fun w h => List.mem_cons_of_mem _ (List.mem_append_right _ h)
  have hl30 := List.mem_of_getElem? (l := wsX0_find) (i := 1) rfl
  have hl9 := List.mem_of_getElem? (l := wsX0_find) (i := 2) rfl
  have hl15 := List.mem_of_getElem? (l := wsX0_find) (i := 3) rfl
  have hl18 := List.mem_of_getElem? (l := wsX0_find) (i := 4) rfl
  refine g_iconst (v := (0 : Int32)) X dX0_find_0 (by decide) rfl ?_
  refine g_istore X [(4, _), (0, _), (1, _), (2, _), (3, _)] dX0_find_1 (by decide) rfl rfl ?_
  have L3 : ∀ (k i : Nat) (hk : i + k = n) (hR : fndI (isNote f g d nd) k i = fndI (isNote f g d nd) n 0), GG p l e (wRoom 0 0 0 0) s m ([.ref (a 13), .int g, .int d, .int nd] : List Value).toArray below meth c D A 5 true 0 0 (MQ below (roQ (fun v => v = some (.int (fndI (isNote f g d nd) n 0)))) ([.ref (a 13), .int g, .int d, .int nd] : List Value).toArray s 0 0 (fun _ => False)) (wHW D a f na w) 3 [(4, .int (nI i)), (0, .ref (a 13)), (1, .int g), (2, .int d), (3, .int nd)] [] := by
    intro k
    induction k using Nat.strongRecOn with
    | _ k ih =>
    intro i hk hR
    refine g_iload X dX0_find_3 0 rfl rfl ?_
    refine g_aload_n X dX0_find_5 rfl 1 rfl rfl ?_
    refine gH_get_Board_size X dX0_find_6 hinX00 hl30 rfl ?_
    refine g_topi (show _ = nI (n) from hn8) ?_
    refine g_icmp_ge X dX0_find_9 54 (by decide) rfl (fun h9 => ?_) (fun h9 => ?_)
    · have i9 := nj_le (a := n) (b := i) (by omega) (by omega) h9
      refine g_bipush (v := ((-6) : Int32)) X dX0_find_54 (by decide) rfl ?_
      refine g_retR X hr (by first | rfl | exact b2i_nar _) dX0_find_56 ?_
      obtain rfl : k = 0 := by omega
      exact congrArg (fun x => some (Value.int x)) hR
    · have i9 := nj_nle (a := n) (b := i) (by omega) (by omega) h9
      refine g_aload_n X dX0_find_12 rfl 1 rfl rfl ?_
      refine gH_get_Board_guest X dX0_find_13 hinX00 hl9 rfl ?_
      refine g_iload X dX0_find_16 0 rfl rfl ?_
      refine gH_ld_Board_guest X dX0_find_18 (by first | rfl | assumption) (by omega) rfl ?_
      refine g_topi (hNR _ (by omega) 0 (by decide)) ?_
      refine g_iload_n X dX0_find_19 rfl 2 rfl rfl ?_
      refine g_icmp_ne X dX0_find_20 48 (by decide) rfl (fun h20 => ?_) (fun h20 => ?_)
      · refine g_iinc (v := nI (i + 1)) X [(4, _), (0, _), (1, _), (2, _), (3, _)] dX0_find_48 0 rfl (nI_add (i) 1) (by decide) rfl rfl ?_
        refine g_goto X dX0_find_51 3 (by decide) ?_
        obtain ⟨k1, rfl⟩ : ∃ k1, k = k1 + 1 := ⟨k - 1, by omega⟩
        exact ih k1 (by omega) (i + 1) (by omega) (by rw [← hR, fndI, if_neg (by simp [isNote, *])])
      · refine g_aload_n X dX0_find_23 rfl 1 rfl rfl ?_
        refine gH_get_Board_door X dX0_find_24 hinX00 hl15 rfl ?_
        refine g_iload X dX0_find_27 0 rfl rfl ?_
        refine gH_ld_Board_door X dX0_find_29 (by first | rfl | assumption) (by omega) rfl ?_
        refine g_topi (hNR _ (by omega) 1 (by decide)) ?_
        refine g_iload_n X dX0_find_30 rfl 3 rfl rfl ?_
        refine g_icmp_ne X dX0_find_31 48 (by decide) rfl (fun h31 => ?_) (fun h31 => ?_)
        · refine g_iinc (v := nI (i + 1)) X [(4, _), (0, _), (1, _), (2, _), (3, _)] dX0_find_48 0 rfl (nI_add (i) 1) (by decide) rfl rfl ?_
          refine g_goto X dX0_find_51 3 (by decide) ?_
          obtain ⟨k1, rfl⟩ : ∃ k1, k = k1 + 1 := ⟨k - 1, by omega⟩
          exact ih k1 (by omega) (i + 1) (by omega) (by rw [← hR, fndI, if_neg (by simp [isNote, *])])
        · refine g_aload_n X dX0_find_34 rfl 1 rfl rfl ?_
          refine gH_get_Board_need X dX0_find_35 hinX00 hl18 rfl ?_
          refine g_iload X dX0_find_38 0 rfl rfl ?_
          refine gH_ld_Board_need X dX0_find_40 (by first | rfl | assumption) (by omega) rfl ?_
          refine g_topi (hNR _ (by omega) 2 (by decide)) ?_
          refine g_iload_n X dX0_find_41 rfl 4 rfl rfl ?_
          refine g_icmp_ne X dX0_find_42 48 (by decide) rfl (fun h42 => ?_) (fun h42 => ?_)
          · refine g_iinc (v := nI (i + 1)) X [(4, _), (0, _), (1, _), (2, _), (3, _)] dX0_find_48 0 rfl (nI_add (i) 1) (by decide) rfl rfl ?_
            refine g_goto X dX0_find_51 3 (by decide) ?_
            obtain ⟨k1, rfl⟩ : ∃ k1, k = k1 + 1 := ⟨k - 1, by omega⟩
            exact ih k1 (by omega) (i + 1) (by omega) (by rw [← hR, fndI, if_neg (by simp [isNote, *])])
          · refine g_iload X dX0_find_45 0 rfl rfl ?_
            refine g_retR X hr (by first | rfl | exact b2i_nar _) dX0_find_47 ?_
            obtain ⟨k1, rfl⟩ : ∃ k1, k = k1 + 1 := ⟨k - 1, by omega⟩
            exact congrArg (fun x => some (Value.int x)) (by rw [← hR, fndI, if_pos (by simp [isNote, *])])
  exact L3 n 0 (by omega) rfl

set_option maxHeartbeats 4000000 in
set_option maxRecDepth 100000 in
theorem c_X0_allNotes (l : Launch) (D : DT) (a : Nat → Nat) (f : Nat → Int32) (na : Nat → Nat → Int32) (w : Nat → Int32) (n : Nat) (hn8 : f 90 = nI n) (h8 : n ≤ 8) : MR l yX0_allNotes wsX0_allNotes 0 0 D [.ref (a 13)] (wHW D a f na w) (fun v => v = some (.int (nI (mskN (fun _ => true) n)))) := by
  refine MR.of (cc := cX0_allNotes) (maxL := 1) (ret := (some .int)) (lv := [(0, .ref (a 13))]) (by decide +kernel) rfl (Nat.le_of_ble_eq_true rfl) rfl ?_
  intro p e s m below meth c A X hr hmn
  have hinX00 : ∀ w ∈ wsX00, w ∈ wsX0_allNotes := fun w h => List.mem_cons_of_mem _ (List.mem_append_right _ h)
  have hl30 := List.mem_of_getElem? (l := wsX0_allNotes) (i := 1) rfl
  refine g_iconst (v := (1 : Int32)) X dX0_allNotes_0 (by decide) rfl ?_
  refine g_aload_n X dX0_allNotes_1 rfl 0 rfl rfl ?_
  refine gH_get_Board_size X dX0_allNotes_2 hinX00 hl30 rfl ?_
  refine g_topi (show _ = nI (n) from hn8) ?_
  refine g_ishl X dX0_allNotes_5 rfl ?_
  refine g_topi (nI_1shl n (by omega)) ?_
  refine g_iconst (v := (1 : Int32)) X dX0_allNotes_6 (by decide) rfl ?_
  refine g_isub X dX0_allNotes_7 rfl ?_
  refine g_topi (y := nI (mskN (fun _ => true) n)) (by rw [← mskN_tt n]; exact pk_sub (a := mskN (fun _ => true) n + 1) (b := 1) (by omega)) ?_
  refine g_retR X hr (by first | rfl | exact b2i_nar _) dX0_allNotes_8 ?_
  rfl

set_option maxHeartbeats 4000000 in
set_option maxRecDepth 100000 in
theorem c_X0_notesOfPage (l : Launch) (D : DT) (a : Nat → Nat) (f : Nat → Int32) (na : Nat → Nat → Int32) (w : Nat → Int32) (n : Nat) (hn8 : f 90 = nI n) (h8 : n ≤ 8) (hNR : NR f na n) (x : Int32) : MR l yX0_notesOfPage wsX0_notesOfPage 0 0 D [.ref (a 13), .int x] (wHW D a f na w) (fun v => v = some (.int (nI (mskN (fun k => decide (noteM f k 3 = x)) n)))) := by
  refine MR.of (cc := cX0_notesOfPage) (maxL := 4) (ret := (some .int)) (lv := [(0, .ref (a 13)), (1, .int x)]) (by decide +kernel) rfl (Nat.le_of_ble_eq_true rfl) rfl ?_
  intro p e s m below meth c A X hr hmn
  have hinX00 : ∀ w ∈ wsX00, w ∈ wsX0_notesOfPage := fun w h => List.mem_cons_of_mem _ (List.mem_append_right _ h)
  have hl30 := List.mem_of_getElem? (l := wsX0_notesOfPage) (i := 1) rfl
  have hl21 := List.mem_of_getElem? (l := wsX0_notesOfPage) (i := 2) rfl
  refine g_iconst (v := (0 : Int32)) X dX0_notesOfPage_0 (by decide) rfl ?_
  refine g_istore_n X [(2, _), (0, _), (1, _)] dX0_notesOfPage_1 rfl (by decide) rfl rfl ?_
  refine g_iconst (v := (0 : Int32)) X dX0_notesOfPage_2 (by decide) rfl ?_
  refine g_istore_n X [(3, _), (2, _), (0, _), (1, _)] dX0_notesOfPage_3 rfl (by decide) rfl rfl ?_
  have L4 : ∀ (q i M : Nat) (hi : i ≤ n) (hq : n - i = q) (hM : M = mskN (fun k => decide (noteM f k 3 = x)) i), GG p l e (wRoom 0 0 0 0) s m ([.ref (a 13), .int x] : List Value).toArray below meth c D A 4 true 0 0 (MQ below (roQ (fun v => v = some (.int (nI (mskN (fun k => decide (noteM f k 3 = x)) n))))) ([.ref (a 13), .int x] : List Value).toArray s 0 0 (fun _ => False)) (wHW D a f na w) 4 [(3, .int (nI i)), (2, .int (nI M)), (0, .ref (a 13)), (1, .int x)] [] := by
    intro q
    induction q using Nat.strongRecOn with
    | _ q ih =>
    intro i M hi hq hM
    have hMl : M < 2 ^ 32 := by rw [hM]; exact msk32 (by omega)
    refine g_iload_n X dX0_notesOfPage_4 rfl 0 rfl rfl ?_
    refine g_aload_n X dX0_notesOfPage_5 rfl 2 rfl rfl ?_
    refine gH_get_Board_size X dX0_notesOfPage_6 hinX00 hl30 rfl ?_
    refine g_topi (show _ = nI (n) from hn8) ?_
    refine g_icmp_ge X dX0_notesOfPage_9 34 (by decide) rfl (fun h9 => ?_) (fun h9 => ?_)
    · have i9 := nj_le (a := n) (b := i) (by omega) (by omega) h9
      have hii : i = n := by omega
      subst hii
      subst hM
      refine g_iload_n X dX0_notesOfPage_34 rfl 1 rfl rfl ?_
      refine g_retR X hr (by first | rfl | exact b2i_nar _) dX0_notesOfPage_35 ?_
      rfl
    · have i9 := nj_nle (a := n) (b := i) (by omega) (by omega) h9
      refine g_aload_n X dX0_notesOfPage_12 rfl 2 rfl rfl ?_
      refine gH_get_Board_page X dX0_notesOfPage_13 hinX00 hl21 rfl ?_
      refine g_iload_n X dX0_notesOfPage_16 rfl 0 rfl rfl ?_
      refine gH_ld_Board_page X dX0_notesOfPage_17 (by first | rfl | assumption) (by omega) rfl ?_
      refine g_topi (hNR _ (by omega) 3 (by decide)) ?_
      refine g_iload_n X dX0_notesOfPage_18 rfl 3 rfl rfl ?_
      refine g_icmp_ne X dX0_notesOfPage_19 28 (by decide) rfl (fun h19 => ?_) (fun h19 => ?_)
      · refine g_iinc (v := nI (i + 1)) X [(3, _), (2, _), (0, _), (1, _)] dX0_notesOfPage_28 0 rfl (nI_add (i) 1) (by decide) rfl rfl ?_
        refine g_goto X dX0_notesOfPage_31 4 (by decide) ?_
        refine ih (n - (i + 1)) (by omega) (i + 1) _ (by omega) rfl ?_
        rw [mskN, hM]
        simp [ofDoor, *]
      · refine g_iload_n X dX0_notesOfPage_22 rfl 1 rfl rfl ?_
        refine g_iconst (v := (1 : Int32)) X dX0_notesOfPage_23 (by decide) rfl ?_
        refine g_iload_n X dX0_notesOfPage_24 rfl 0 rfl rfl ?_
        refine g_ishl X dX0_notesOfPage_25 rfl ?_
        refine g_ior X dX0_notesOfPage_26 rfl ?_
        refine g_topi (imsk hMl (by omega)) ?_
        refine g_istore_n X [(2, _), (3, _), (0, _), (1, _)] dX0_notesOfPage_27 rfl (by decide) rfl rfl ?_
        refine g_iinc (v := nI (i + 1)) X [(3, _), (2, _), (0, _), (1, _)] dX0_notesOfPage_28 1 rfl (nI_add (i) 1) (by decide) rfl rfl ?_
        refine g_goto X dX0_notesOfPage_31 4 (by decide) ?_
        refine ih (n - (i + 1)) (by omega) (i + 1) _ (by omega) rfl ?_
        rw [mskN, hM]
        simp [ofDoor, *]
  exact L4 n 0 0 (by omega) rfl rfl

set_option maxHeartbeats 4000000 in
set_option maxRecDepth 100000 in
theorem c_X0_notesOfDoor (l : Launch) (D : DT) (a : Nat → Nat) (f : Nat → Int32) (na : Nat → Nat → Int32) (w : Nat → Int32) (n : Nat) (hn8 : f 90 = nI n) (h8 : n ≤ 8) (hNR : NR f na n) (g d : Int32) : MR l yX0_notesOfDoor wsX0_notesOfDoor 0 0 D [.ref (a 13), .int g, .int d] (wHW D a f na w) (fun v => v = some (.int (nI (mskN (ofDoor f g d) n)))) := by
  refine MR.of (cc := cX0_notesOfDoor) (maxL := 5) (ret := (some .int)) (lv := [(0, .ref (a 13)), (1, .int g), (2, .int d)]) (by decide +kernel) rfl (Nat.le_of_ble_eq_true rfl) rfl ?_
  intro p e s m below meth c A X hr hmn
  have hinX00 : ∀ w ∈ wsX00, w ∈ wsX0_notesOfDoor := fun w h => List.mem_cons_of_mem _ (List.mem_append_right _ h)
  have hl30 := List.mem_of_getElem? (l := wsX0_notesOfDoor) (i := 1) rfl
  have hl9 := List.mem_of_getElem? (l := wsX0_notesOfDoor) (i := 2) rfl
  have hl15 := List.mem_of_getElem? (l := wsX0_notesOfDoor) (i := 3) rfl
  refine g_iconst (v := (0 : Int32)) X dX0_notesOfDoor_0 (by decide) rfl ?_
  refine g_istore_n X [(3, _), (0, _), (1, _), (2, _)] dX0_notesOfDoor_1 rfl (by decide) rfl rfl ?_
  refine g_iconst (v := (0 : Int32)) X dX0_notesOfDoor_2 (by decide) rfl ?_
  refine g_istore X [(4, _), (3, _), (0, _), (1, _), (2, _)] dX0_notesOfDoor_3 (by decide) rfl rfl ?_
  have L5 : ∀ (q i M : Nat) (hi : i ≤ n) (hq : n - i = q) (hM : M = mskN (ofDoor f g d) i), GG p l e (wRoom 0 0 0 0) s m ([.ref (a 13), .int g, .int d] : List Value).toArray below meth c D A 5 true 0 0 (MQ below (roQ (fun v => v = some (.int (nI (mskN (ofDoor f g d) n))))) ([.ref (a 13), .int g, .int d] : List Value).toArray s 0 0 (fun _ => False)) (wHW D a f na w) 5 [(4, .int (nI i)), (3, .int (nI M)), (0, .ref (a 13)), (1, .int g), (2, .int d)] [] := by
    intro q
    induction q using Nat.strongRecOn with
    | _ q ih =>
    intro i M hi hq hM
    have hMl : M < 2 ^ 32 := by rw [hM]; exact msk32 (by omega)
    refine g_iload X dX0_notesOfDoor_5 0 rfl rfl ?_
    refine g_aload_n X dX0_notesOfDoor_7 rfl 2 rfl rfl ?_
    refine gH_get_Board_size X dX0_notesOfDoor_8 hinX00 hl30 rfl ?_
    refine g_topi (show _ = nI (n) from hn8) ?_
    refine g_icmp_ge X dX0_notesOfDoor_11 49 (by decide) rfl (fun h11 => ?_) (fun h11 => ?_)
    · have i11 := nj_le (a := n) (b := i) (by omega) (by omega) h11
      have hii : i = n := by omega
      subst hii
      subst hM
      refine g_iload_n X dX0_notesOfDoor_49 rfl 1 rfl rfl ?_
      refine g_retR X hr (by first | rfl | exact b2i_nar _) dX0_notesOfDoor_50 ?_
      rfl
    · have i11 := nj_nle (a := n) (b := i) (by omega) (by omega) h11
      refine g_aload_n X dX0_notesOfDoor_14 rfl 2 rfl rfl ?_
      refine gH_get_Board_guest X dX0_notesOfDoor_15 hinX00 hl9 rfl ?_
      refine g_iload X dX0_notesOfDoor_18 0 rfl rfl ?_
      refine gH_ld_Board_guest X dX0_notesOfDoor_20 (by first | rfl | assumption) (by omega) rfl ?_
      refine g_topi (hNR _ (by omega) 0 (by decide)) ?_
      refine g_iload_n X dX0_notesOfDoor_21 rfl 3 rfl rfl ?_
      refine g_icmp_ne X dX0_notesOfDoor_22 43 (by decide) rfl (fun h22 => ?_) (fun h22 => ?_)
      · refine g_iinc (v := nI (i + 1)) X [(4, _), (3, _), (0, _), (1, _), (2, _)] dX0_notesOfDoor_43 0 rfl (nI_add (i) 1) (by decide) rfl rfl ?_
        refine g_goto X dX0_notesOfDoor_46 5 (by decide) ?_
        refine ih (n - (i + 1)) (by omega) (i + 1) _ (by omega) rfl ?_
        rw [mskN, hM]
        simp [ofDoor, *]
      · refine g_aload_n X dX0_notesOfDoor_25 rfl 2 rfl rfl ?_
        refine gH_get_Board_door X dX0_notesOfDoor_26 hinX00 hl15 rfl ?_
        refine g_iload X dX0_notesOfDoor_29 0 rfl rfl ?_
        refine gH_ld_Board_door X dX0_notesOfDoor_31 (by first | rfl | assumption) (by omega) rfl ?_
        refine g_topi (hNR _ (by omega) 1 (by decide)) ?_
        refine g_iload_n X dX0_notesOfDoor_32 rfl 4 rfl rfl ?_
        refine g_icmp_ne X dX0_notesOfDoor_33 43 (by decide) rfl (fun h33 => ?_) (fun h33 => ?_)
        · refine g_iinc (v := nI (i + 1)) X [(4, _), (3, _), (0, _), (1, _), (2, _)] dX0_notesOfDoor_43 0 rfl (nI_add (i) 1) (by decide) rfl rfl ?_
          refine g_goto X dX0_notesOfDoor_46 5 (by decide) ?_
          refine ih (n - (i + 1)) (by omega) (i + 1) _ (by omega) rfl ?_
          rw [mskN, hM]
          simp [ofDoor, *]
        · refine g_iload_n X dX0_notesOfDoor_36 rfl 1 rfl rfl ?_
          refine g_iconst (v := (1 : Int32)) X dX0_notesOfDoor_37 (by decide) rfl ?_
          refine g_iload X dX0_notesOfDoor_38 0 rfl rfl ?_
          refine g_ishl X dX0_notesOfDoor_40 rfl ?_
          refine g_ior X dX0_notesOfDoor_41 rfl ?_
          refine g_topi (imsk hMl (by omega)) ?_
          refine g_istore_n X [(3, _), (4, _), (0, _), (1, _), (2, _)] dX0_notesOfDoor_42 rfl (by decide) rfl rfl ?_
          refine g_iinc (v := nI (i + 1)) X [(4, _), (3, _), (0, _), (1, _), (2, _)] dX0_notesOfDoor_43 1 rfl (nI_add (i) 1) (by decide) rfl rfl ?_
          refine g_goto X dX0_notesOfDoor_46 5 (by decide) ?_
          refine ih (n - (i + 1)) (by omega) (i + 1) _ (by omega) rfl ?_
          rw [mskN, hM]
          simp [ofDoor, *]
  exact L5 n 0 0 (by omega) rfl rfl

set_option maxHeartbeats 4000000 in
set_option maxRecDepth 100000 in
theorem c_X0_add (l : Launch) (D : DT) (a : Nat → Nat) (f : Nat → Int32) (na : Nat → Nat → Int32) (w : Nat → Int32) (n : Nat) (hn8 : f 90 = nI n) (h8 : n ≤ 8) (hNR : NR f na n) (h7 : n < 8) (g d nd pg : Int32) : MW l yX0_add wsX0_add 0 0 0 0 D [.ref (a 13), .int g, .int d, .int nd, .int pg] (wHW D a f na w) (fun v w2 => v = none ∧ ∃ nb : Nat → Nat → Int32, w2 = (wHW D a (pnF f n g d nd pg) nb w) ∧ NR (pnF f n g d nd pg) nb (n + 1)) := by
  refine MW.of (cc := cX0_add) (maxL := 5) (ret := none) (lv := [(0, .ref (a 13)), (1, .int g), (2, .int d), (3, .int nd), (4, .int pg)]) (by decide +kernel) rfl (Nat.le_of_ble_eq_true rfl) rfl ?_
  intro p e s m below meth c A hAe hAg X hr hmn
  have hinX00 : ∀ w ∈ wsX00, w ∈ wsX0_add := fun w h => List.mem_cons_of_mem _ (List.mem_append_right _ h)
  have hl30 := List.mem_of_getElem? (l := wsX0_add) (i := 1) rfl
  have hl9 := List.mem_of_getElem? (l := wsX0_add) (i := 2) rfl
  have hl15 := List.mem_of_getElem? (l := wsX0_add) (i := 3) rfl
  have hl18 := List.mem_of_getElem? (l := wsX0_add) (i := 4) rfl
  have hl21 := List.mem_of_getElem? (l := wsX0_add) (i := 5) rfl
  refine g_aload_n X dX0_add_0 rfl 0 rfl rfl ?_
  refine gH_get_Board_size X dX0_add_1 hinX00 hl30 rfl ?_
  refine g_topi (show _ = nI (n) from hn8) ?_
  refine g_bipush (v := (8 : Int32)) X dX0_add_4 (by decide) rfl ?_
  refine g_icmp_lt X dX0_add_6 10 (by decide) rfl (fun h6 => ?_) (fun h6 => absurd (nj_nlt (a := n) (b := 8) (by omega) (by omega) h6) (by omega))
  have i6 := nj_lt (a := n) (b := 8) (by omega) (by omega) h6
  refine g_aload_n X dX0_add_10 rfl 0 rfl rfl ?_
  refine gH_get_Board_guest X dX0_add_11 hinX00 hl9 rfl ?_
  refine g_aload_n X dX0_add_14 rfl 0 rfl rfl ?_
  refine gH_get_Board_size X dX0_add_15 hinX00 hl30 rfl ?_
  refine g_topi (show _ = nI (n) from hn8) ?_
  refine g_iload_n X dX0_add_18 rfl 1 rfl rfl ?_
  refine gH_st_Board_guest X rfl dX0_add_19 (by first | rfl | assumption) (by omega) rfl ?_
  refine g_aload_n X dX0_add_20 rfl 0 rfl rfl ?_
  refine gH_get_Board_door X dX0_add_21 hinX00 hl15 rfl ?_
  refine g_aload_n X dX0_add_24 rfl 0 rfl rfl ?_
  refine gH_get_Board_size X dX0_add_25 hinX00 hl30 rfl ?_
  refine g_topi (show _ = nI (n) from hn8) ?_
  refine g_iload_n X dX0_add_28 rfl 2 rfl rfl ?_
  refine gH_st_Board_door X rfl dX0_add_29 (by first | rfl | assumption) (by omega) rfl ?_
  refine g_aload_n X dX0_add_30 rfl 0 rfl rfl ?_
  refine gH_get_Board_need X dX0_add_31 hinX00 hl18 rfl ?_
  refine g_aload_n X dX0_add_34 rfl 0 rfl rfl ?_
  refine gH_get_Board_size X dX0_add_35 hinX00 hl30 rfl ?_
  refine g_topi (show _ = nI (n) from hn8) ?_
  refine g_iload_n X dX0_add_38 rfl 3 rfl rfl ?_
  refine gH_st_Board_need X rfl dX0_add_39 (by first | rfl | assumption) (by omega) rfl ?_
  refine g_aload_n X dX0_add_40 rfl 0 rfl rfl ?_
  refine gH_get_Board_page X dX0_add_41 hinX00 hl21 rfl ?_
  refine g_aload_n X dX0_add_44 rfl 0 rfl rfl ?_
  refine gH_get_Board_size X dX0_add_45 hinX00 hl30 rfl ?_
  refine g_topi (show _ = nI (n) from hn8) ?_
  refine g_iload X dX0_add_48 4 rfl rfl ?_
  refine gH_st_Board_page X rfl dX0_add_50 (by first | rfl | assumption) (by omega) rfl ?_
  refine g_aload_n X dX0_add_51 rfl 0 rfl rfl ?_
  refine g_dup X dX0_add_52 rfl rfl ?_
  refine gH_get_Board_size X dX0_add_53 hinX00 hl30 rfl ?_
  refine g_topi (show _ = nI (n) from hn8) ?_
  refine g_iconst (v := (1 : Int32)) X dX0_add_56 (by decide) rfl ?_
  refine g_iadd X dX0_add_57 rfl ?_
  refine g_topi (y := nI (n + 1)) (nI_add (n) (1)) ?_
  refine gH_put_Board_size X rfl dX0_add_58 hinX00 hl30 rfl ?_
  refine g_vretW X hr dX0_add_61 hAe ?_
  exact ⟨rfl, adN na n g d nd pg, wHW_c (ad_w (by omega)), ad_NR hNR⟩

set_option maxHeartbeats 4000000 in
set_option maxRecDepth 100000 in
theorem c_X0_remove (l : Launch) (D : DT) (a : Nat → Nat) (f : Nat → Int32) (na : Nat → Nat → Int32) (w : Nat → Int32) (n : Nat) (hn8 : f 90 = nI n) (h8 : n ≤ 8) (P : Nat → Bool) : MW l yX0_remove wsX0_remove 1 22 0 0 D [.ref (a 13), .int (nI (mskN P n))] (wHW D a f na w) (fun v w2 => v = some (.int (nI (cnI P n))) ∧ ∃ nb : Nat → Nat → Int32, w2 = (wHW D a (up f 90 (nI (n - cnI P n))) nb w) ∧ RM P na nb n) := by
  refine MW.of (cc := cX0_remove) (maxL := 4) (ret := (some .int)) (lv := [(0, .ref (a 13)), (1, .int (nI (mskN P n)))]) (by decide +kernel) rfl (Nat.le_of_ble_eq_true rfl) rfl ?_
  intro p e s m below meth c A hAe hAg X hr hmn
  have hinX00 : ∀ w ∈ wsX00, w ∈ wsX0_remove := fun w h => List.mem_cons_of_mem _ (List.mem_append_right _ h)
  have hl30 := List.mem_of_getElem? (l := wsX0_remove) (i := 1) rfl
  have hl9 := List.mem_of_getElem? (l := wsX0_remove) (i := 2) rfl
  have hl15 := List.mem_of_getElem? (l := wsX0_remove) (i := 3) rfl
  have hl18 := List.mem_of_getElem? (l := wsX0_remove) (i := 4) rfl
  have hl21 := List.mem_of_getElem? (l := wsX0_remove) (i := 5) rfl
  refine g_iconst (v := (0 : Int32)) X dX0_remove_0 (by decide) rfl ?_
  refine g_istore_n X [(2, _), (0, _), (1, _)] dX0_remove_1 rfl (by decide) rfl rfl ?_
  refine g_iconst (v := (0 : Int32)) X dX0_remove_2 (by decide) rfl ?_
  refine g_istore_n X [(3, _), (2, _), (0, _), (1, _)] dX0_remove_3 rfl (by decide) rfl rfl ?_
  have L4 : ∀ (q i t : Nat) (nb : Nat → Nat → Int32) (hi : i ≤ n) (hq : n - i = q) (ht : t = (kpL P i).length) (hR : RM P na nb i), GG p l e (wRoom 1 22 0 0) s m ([.ref (a 13), .int (nI (mskN P n))] : List Value).toArray below meth c D A 4 false 0 0 (MQ below (wrQ D (wHW D a f na w) s.heap.size (fun v w2 => v = some (.int (nI (cnI P n))) ∧ ∃ nb : Nat → Nat → Int32, w2 = (wHW D a (up f 90 (nI (n - cnI P n))) nb w) ∧ RM P na nb n)) ([.ref (a 13), .int (nI (mskN P n))] : List Value).toArray s 0 0 (va_A (wHW D a f na w) s.heap.size)) (wHW D a f nb w) 4 [(3, .int (nI i)), (2, .int (nI t)), (0, .ref (a 13)), (1, .int (nI (mskN P n)))] [] := by
    intro q
    induction q using Nat.strongRecOn with
    | _ q ih =>
    intro i t nb hi hq ht hR
    have hl := kpL_len P i
    have hti : t ≤ i := by omega
    refine g_iload_n X dX0_remove_4 rfl 0 rfl rfl ?_
    refine g_aload_n X dX0_remove_5 rfl 2 rfl rfl ?_
    refine gH_get_Board_size X dX0_remove_6 hinX00 hl30 rfl ?_
    refine g_topi (show _ = nI (n) from hn8) ?_
    refine g_icmp_ge X dX0_remove_9 78 (by decide) rfl (fun h9 => ?_) (fun h9 => ?_)
    · have i9 := nj_le (a := n) (b := i) (by omega) (by omega) h9
      have hii : n = i := by omega
      have htc : t = n - cnI P n := by rw [hii]; omega
      refine g_aload_n X dX0_remove_78 rfl 2 rfl rfl ?_
      refine gH_get_Board_size X dX0_remove_79 hinX00 hl30 rfl ?_
      refine g_topi (show _ = nI (n) from hn8) ?_
      refine g_iload_n X dX0_remove_82 rfl 1 rfl rfl ?_
      refine g_isub X dX0_remove_83 rfl ?_
      refine g_topi (y := nI (cnI P n)) ((pk_sub (a := n) (b := t) (by omega)).trans (congrArg nI (by rw [htc, hii]; omega))) ?_
      refine g_istore_n X [(3, _), (2, _), (0, _), (1, _)] dX0_remove_84 rfl (by decide) rfl rfl ?_
      refine g_aload_n X dX0_remove_85 rfl 2 rfl rfl ?_
      refine g_iload_n X dX0_remove_86 rfl 1 rfl rfl ?_
      refine gH_put_Board_size X rfl dX0_remove_87 hinX00 hl30 rfl ?_
      refine g_iload_n X dX0_remove_90 rfl 0 rfl rfl ?_
      refine g_retW X hr (by first | rfl | exact b2i_nar _) dX0_remove_91 hAe ?_
      subst htc
      exact ⟨rfl, nb, rfl, by rw [hii]; exact hR⟩
    · have i9 := nj_nle (a := n) (b := i) (by omega) (by omega) h9
      refine g_iload_n X dX0_remove_12 rfl 3 rfl rfl ?_
      refine g_i2l X dX0_remove_13 rfl rfl ?_
      refine g_topl (i8_l _ (msk8 h8)) ?_
      refine g_iload_n X dX0_remove_14 rfl 0 rfl rfl ?_
      refine g_callSNR (n := 2) (As := [_, _]) (rest := []) X (c_X6_isIn l D (mskN P n) i (msk64 (by omega)) (by omega)) gX0_remove_X6_isIn_n48 (List.mem_of_getElem? (i := 7) rfl) (by decide +kernel) (List.mem_of_getElem? (i := 6) rfl) rfl (by decide +kernel) ⟨Nat.le_of_ble_eq_true rfl, Nat.le_of_ble_eq_true rfl⟩ [] rfl rfl rfl rfl (Nat.le_of_ble_eq_true rfl) dX0_remove_15 ⟨Nat.le_of_ble_eq_true rfl, Nat.le_of_ble_eq_true rfl⟩ rfl (fun v hv => ?_)
      obtain rfl := hv
      refine g_st (st' := [_]) rfl ?_
      have hT : (mskN P n).testBit i = P i := by rw [mskN_bit, decide_eq_true i9, Bool.true_and]
      refine g_topi (y := b2i (P i)) (congrArg b2i hT) ?_
      refine g_if_ne X dX0_remove_18 72 (by decide) rfl (fun h18 => ?_) (fun h18 => ?_)
      · replace h18 := b2i_n0 h18
        refine g_iinc (v := nI (i + 1)) X [(3, _), (2, _), (0, _), (1, _)] dX0_remove_72 0 rfl (nI_add (i) 1) (by decide) rfl rfl ?_
        refine g_goto X dX0_remove_75 4 (by decide) ?_
        first
        | exact ih (n - (i + 1)) (by omega) (i + 1) _ _ (by omega) rfl (by rw [ht]; exact kp_t h18) (RM_t hR h18)
        | (subst ht; exact ih (n - (i + 1)) (by omega) (i + 1) _ _ (by omega) rfl (kp_f h18) (RM_f hR h18))
      · replace h18 := b2i_0 h18
        refine g_aload_n X dX0_remove_21 rfl 2 rfl rfl ?_
        refine gH_get_Board_guest X dX0_remove_22 hinX00 hl9 rfl ?_
        refine g_iload_n X dX0_remove_25 rfl 1 rfl rfl ?_
        refine g_aload_n X dX0_remove_26 rfl 2 rfl rfl ?_
        refine gH_get_Board_guest X dX0_remove_27 hinX00 hl9 rfl ?_
        refine g_iload_n X dX0_remove_30 rfl 0 rfl rfl ?_
        refine gH_ld_Board_guest X dX0_remove_31 (by first | rfl | assumption) (by omega) rfl ?_
        refine gH_st_Board_guest X rfl dX0_remove_32 (by first | rfl | assumption) (by omega) rfl ?_
        refine g_aload_n X dX0_remove_33 rfl 2 rfl rfl ?_
        refine gH_get_Board_door X dX0_remove_34 hinX00 hl15 rfl ?_
        refine g_iload_n X dX0_remove_37 rfl 1 rfl rfl ?_
        refine g_aload_n X dX0_remove_38 rfl 2 rfl rfl ?_
        refine gH_get_Board_door X dX0_remove_39 hinX00 hl15 rfl ?_
        refine g_iload_n X dX0_remove_42 rfl 0 rfl rfl ?_
        refine gH_ld_Board_door X dX0_remove_43 (by first | rfl | assumption) (by omega) rfl ?_
        refine gH_st_Board_door X rfl dX0_remove_44 (by first | rfl | assumption) (by omega) rfl ?_
        refine g_aload_n X dX0_remove_45 rfl 2 rfl rfl ?_
        refine gH_get_Board_need X dX0_remove_46 hinX00 hl18 rfl ?_
        refine g_iload_n X dX0_remove_49 rfl 1 rfl rfl ?_
        refine g_aload_n X dX0_remove_50 rfl 2 rfl rfl ?_
        refine gH_get_Board_need X dX0_remove_51 hinX00 hl18 rfl ?_
        refine g_iload_n X dX0_remove_54 rfl 0 rfl rfl ?_
        refine gH_ld_Board_need X dX0_remove_55 (by first | rfl | assumption) (by omega) rfl ?_
        refine gH_st_Board_need X rfl dX0_remove_56 (by first | rfl | assumption) (by omega) rfl ?_
        refine g_aload_n X dX0_remove_57 rfl 2 rfl rfl ?_
        refine gH_get_Board_page X dX0_remove_58 hinX00 hl21 rfl ?_
        refine g_iload_n X dX0_remove_61 rfl 1 rfl rfl ?_
        refine g_aload_n X dX0_remove_62 rfl 2 rfl rfl ?_
        refine gH_get_Board_page X dX0_remove_63 hinX00 hl21 rfl ?_
        refine g_iload_n X dX0_remove_66 rfl 0 rfl rfl ?_
        refine gH_ld_Board_page X dX0_remove_67 (by first | rfl | assumption) (by omega) rfl ?_
        refine gH_st_Board_page X rfl dX0_remove_68 (by first | rfl | assumption) (by omega) rfl ?_
        refine g_iinc (v := nI (t + 1)) X [(2, _), (3, _), (0, _), (1, _)] dX0_remove_69 1 rfl (nI_add (t) 1) (by decide) rfl rfl ?_
        refine g_iinc (v := nI (i + 1)) X [(3, _), (2, _), (0, _), (1, _)] dX0_remove_72 1 rfl (nI_add (i) 1) (by decide) rfl rfl ?_
        refine g_goto X dX0_remove_75 4 (by decide) ?_
        first
        | exact ih (n - (i + 1)) (by omega) (i + 1) _ _ (by omega) rfl (by rw [ht]; exact kp_t h18) (RM_t hR h18)
        | (subst ht; exact ih (n - (i + 1)) (by omega) (i + 1) _ _ (by omega) rfl (kp_f h18) (RM_f hR h18))
  exact L4 n 0 0 na (by omega) rfl rfl (RM_0 P na)

set_option maxHeartbeats 4000000 in
set_option maxRecDepth 100000 in
theorem c_X0_wipeThese (l : Launch) (D : DT) (a : Nat → Nat) (f : Nat → Int32) (na : Nat → Nat → Int32) (w : Nat → Int32) (n : Nat) (hn8 : f 90 = nI n) (h8 : n ≤ 8) (hNR : NR f na n) (P : Nat → Bool) : MW l yX0_wipeThese wsX0_wipeThese 2 45 0 0 D [.ref (a 13), .int (nI (mskN P n))] (wHW D a f na w) (fun v w2 => v = some (.int (wkN P f n)) ∧ ∃ nb : Nat → Nat → Int32, w2 = (wHW D a (wkF P f n) nb w) ∧ NR (wkF P f n) nb (n - cnI P n)) := by
  refine MW.of (cc := cX0_wipeThese) (maxL := 3) (ret := (some .int)) (lv := [(0, .ref (a 13)), (1, .int (nI (mskN P n)))]) (by decide +kernel) rfl (Nat.le_of_ble_eq_true rfl) rfl ?_
  intro p e s m below meth c A hAe hAg X hr hmn
  have hinX00 : ∀ w ∈ wsX00, w ∈ wsX0_wipeThese := fun w h => List.mem_cons_of_mem _ (List.mem_append_right _ h)
  have hl34 := List.mem_of_getElem? (l := wsX0_wipeThese) (i := 1) rfl
  refine g_aload_n X dX0_wipeThese_0 rfl 0 rfl rfl ?_
  refine g_iload_n X dX0_wipeThese_1 rfl 1 rfl rfl ?_
  refine g_callVWsq (n := 1) (As := [_]) (rest := []) X hAg rfl (c_X0_remove l D _ _ _ _ n hn8 h8 P) gX0_wipeThese_X0_remove rfl (by decide +kernel) ⟨Nat.le_of_ble_eq_true rfl, Nat.le_of_ble_eq_true rfl⟩ 11 rfl rfl  rfl rfl (Nat.le_of_ble_eq_true rfl) dX0_wipeThese_2 ⟨Nat.le_of_ble_eq_true rfl, Nat.le_of_ble_eq_true rfl⟩ rfl (fun v w hv => ?_)
  obtain ⟨rfl, nb, rfl, hRM⟩ := hv
  refine ⟨rfl, ?_⟩
  refine g_st (st' := [_]) rfl ?_
  refine g_istore_n X [(2, _), (0, _), (1, _)] dX0_wipeThese_5 rfl (by decide) rfl rfl ?_
  refine g_aload_n X dX0_wipeThese_6 rfl 1 rfl rfl ?_
  refine g_dup X dX0_wipeThese_7 rfl rfl ?_
  refine gH_get_Board_wiped X dX0_wipeThese_8 hinX00 hl34 rfl ?_
  refine g_iload_n X dX0_wipeThese_11 rfl 0 rfl rfl ?_
  refine g_iadd X dX0_wipeThese_12 rfl ?_
  refine gH_put_Board_wiped X rfl dX0_wipeThese_13 hinX00 hl34 rfl ?_
  refine g_iload_n X dX0_wipeThese_16 rfl 0 rfl rfl ?_
  refine g_retW X hr (by first | rfl | exact b2i_nar _) dX0_wipeThese_17 hAe ?_
  exact ⟨by rw [wipe_n], nb, wHW_c (wipe_w hn8 h8), wipe_NR hNR hRM⟩

set_option maxHeartbeats 4000000 in
set_option maxRecDepth 100000 in
theorem c_X0_dropDownTo (l : Launch) (D : DT) (a : Nat → Nat) (f : Nat → Int32) (na : Nat → Nat → Int32) (w : Nat → Int32) (n : Nat) (hn8 : f 90 = nI n) (h8 : n ≤ 8) (hNR : NR f na n) (b : Nat) (hb8 : b ≤ 8) : MW l yX0_dropDownTo wsX0_dropDownTo 2 45 0 0 D [.ref (a 13), .int (nI b)] (wHW D a f na w) (fun v w2 => v = none ∧ ∃ nb : Nat → Nat → Int32, w2 = (wHW D a (drI n f n b) nb w) ∧ NR (drI n f n b) nb (min n b)) := by
  refine MW.of (cc := cX0_dropDownTo) (maxL := 2) (ret := none) (lv := [(0, .ref (a 13)), (1, .int (nI b))]) (by decide +kernel) rfl (Nat.le_of_ble_eq_true rfl) rfl ?_
  intro p e s m below meth c A hAe hAg X hr hmn
  have hinX00 : ∀ w ∈ wsX00, w ∈ wsX0_dropDownTo := fun w h => List.mem_cons_of_mem _ (List.mem_append_right _ h)
  have hl30 := List.mem_of_getElem? (l := wsX0_dropDownTo) (i := 1) rfl
  have hl37 := List.mem_of_getElem? (l := wsX0_dropDownTo) (i := 2) rfl
  refine g_aload_n X dX0_dropDownTo_0 rfl 0 rfl rfl ?_
  refine gH_get_Board_size X dX0_dropDownTo_1 hinX00 hl30 rfl ?_
  refine g_topi (show _ = nI (n) from hn8) ?_
  refine g_iload_n X dX0_dropDownTo_4 rfl 1 rfl rfl ?_
  refine g_icmp_le X dX0_dropDownTo_5 31 (by decide) rfl (fun h5 => ?_) (fun h5 => ?_)
  · have i5 := nj_le (a := n) (b := b) (by omega) (by omega) h5
    refine g_vretW X hr dX0_dropDownTo_31 hAe ?_
    first
    | exact ⟨rfl, nb, wHW_c (dr_w hn8 h8 i5), by rw [show min n b = b from by omega]; exact dr_NR hn8 h8 i5 hNR hRM⟩
    | exact ⟨rfl, na, wHW_c (fun m hm => by rw [dr_no i5]), by rw [dr_no i5, show min n b = n from by omega]; exact hNR⟩
  · have i5 := nj_nle (a := n) (b := b) (by omega) (by omega) h5
    refine g_aload_n X dX0_dropDownTo_8 rfl 0 rfl rfl ?_
    refine g_dup X dX0_dropDownTo_9 rfl rfl ?_
    refine gH_get_Board_dropped X dX0_dropDownTo_10 hinX00 hl37 rfl ?_
    refine g_aload_n X dX0_dropDownTo_13 rfl 0 rfl rfl ?_
    refine g_iconst (v := (1 : Int32)) X dX0_dropDownTo_14 (by decide) rfl ?_
    refine g_aload_n X dX0_dropDownTo_15 rfl 0 rfl rfl ?_
    refine gH_get_Board_size X dX0_dropDownTo_16 hinX00 hl30 rfl ?_
    refine g_topi (show _ = nI (n) from hn8) ?_
    refine g_iload_n X dX0_dropDownTo_19 rfl 1 rfl rfl ?_
    refine g_isub X dX0_dropDownTo_20 rfl ?_
    refine g_topi (pk_sub (a := n) (b := b) (by omega)) ?_
    refine g_ishl X dX0_dropDownTo_21 rfl ?_
    refine g_topi (nI_1shl (n - b) (by omega)) ?_
    refine g_iconst (v := (1 : Int32)) X dX0_dropDownTo_22 (by decide) rfl ?_
    refine g_isub X dX0_dropDownTo_23 rfl ?_
    refine g_topi (dr_msk i5 h8) ?_
    refine g_callVWsq (n := 1) (As := [_]) (rest := [_, _]) X hAg rfl (c_X0_remove l D _ _ _ _ n hn8 h8 (fun k => decide (k < n - b))) gX0_dropDownTo_X0_remove rfl (by decide +kernel) ⟨Nat.le_of_ble_eq_true rfl, Nat.le_of_ble_eq_true rfl⟩ 11 rfl rfl  rfl rfl (Nat.le_of_ble_eq_true rfl) dX0_dropDownTo_24 ⟨Nat.le_of_ble_eq_true rfl, Nat.le_of_ble_eq_true rfl⟩ rfl (fun v w hv => ?_)
    obtain ⟨rfl, nb, rfl, hRM⟩ := hv
    refine ⟨rfl, ?_⟩
    refine g_st (st' := [_, _, _]) rfl ?_
    refine g_iadd X dX0_dropDownTo_27 rfl ?_
    refine gH_put_Board_dropped X rfl dX0_dropDownTo_28 hinX00 hl37 rfl ?_
    refine g_vretW X hr dX0_dropDownTo_31 hAe ?_
    first
    | exact ⟨rfl, nb, wHW_c (dr_w hn8 h8 i5), by rw [show min n b = b from by omega]; exact dr_NR hn8 h8 i5 hNR hRM⟩
    | exact ⟨rfl, na, wHW_c (fun m hm => by rw [dr_no i5]), by rw [dr_no i5, show min n b = n from by omega]; exact hNR⟩
