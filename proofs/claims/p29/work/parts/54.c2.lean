set_option maxHeartbeats 4000000 in
set_option maxRecDepth 100000 in
theorem c_X2_ledBy (l : Launch) (D : DT) (a : Nat → Nat) (f : Nat → Int32) (na : Nat → Nat → Int32) (w : Nat → Int32) (g d : Nat) (hg : g < 6) (hd : d < 10) : MR l yX2_ledBy wsX2_ledBy 1 21 D [.ref (a 0), .int (nI g), .int (nI d)] (wHW D a f na w) (fun v => v = some (.int (ledM f g d))) := by
  refine MR.of (cc := cX2_ledBy) (maxL := 3) (ret := (some .int)) (lv := [(0, .ref (a 0)), (1, .int (nI g)), (2, .int (nI d))]) (by decide +kernel) rfl (Nat.le_of_ble_eq_true rfl) rfl ?_
  intro p e s m below meth c A X hr hmn
  have hinX20 : ∀ w ∈ wsX20, w ∈ wsX2_ledBy := fun w h => List.mem_cons_of_mem _ (List.mem_append_right _ h)
  have hl15 := List.mem_of_getElem? (l := wsX2_ledBy) (i := 1) rfl
  refine g_iload_n X dX2_ledBy_0 rfl 1 rfl rfl ?_
  refine g_iload_n X dX2_ledBy_1 rfl 2 rfl rfl ?_
  refine g_callSNR (n := 2) (As := [_, _]) (rest := []) X (c_X6_isDoor l D _ _) gX2_ledBy_X6_isDoor_n134 (List.mem_of_getElem? (i := 3) rfl) (by decide +kernel) (List.mem_of_getElem? (i := 2) rfl) rfl (by decide +kernel) ⟨Nat.le_of_ble_eq_true rfl, Nat.le_of_ble_eq_true rfl⟩ [] rfl rfl rfl rfl (Nat.le_of_ble_eq_true rfl) dX2_ledBy_2 ⟨Nat.le_of_ble_eq_true rfl, Nat.le_of_ble_eq_true rfl⟩ rfl (fun v hv => ?_)
  obtain rfl := hv
  refine g_st (st' := [_]) rfl ?_
  refine g_if_eq X dX2_ledBy_5 22 (by decide) rfl (fun h5 => absurd (b2i_0 h5) (by rw [rng_nI' hg (by omega), rng_nI' hd (by omega)]; decide)) (fun h5 => ?_)
  refine g_aload_n X dX2_ledBy_8 rfl 0 rfl rfl ?_
  refine gH_get_House_doors X dX2_ledBy_9 hinX20 hl15 rfl ?_
  refine g_iload_n X dX2_ledBy_12 rfl 1 rfl rfl ?_
  refine g_bipush (v := (10 : Int32)) X dX2_ledBy_13 (by decide) rfl ?_
  refine g_imul X dX2_ledBy_15 rfl ?_
  refine g_topi (y := nI (g * 10)) (pk_mul (g) (10)) ?_
  refine g_iload_n X dX2_ledBy_16 rfl 2 rfl rfl ?_
  refine g_iadd X dX2_ledBy_17 rfl ?_
  refine g_topi (y := nI ((g * 10) + d)) (nI_add ((g * 10)) (d)) ?_
  refine gS_ld_doors X dX2_ledBy_18 (by first | rfl | assumption) (by omega) rfl ?_
  refine g_goto X dX2_ledBy_19 24 (by decide) ?_
  refine g_retR X hr (by first | rfl | exact b2i_nar _) dX2_ledBy_24 ?_
  exact congrArg (fun k => some (Value.int (f k))) (by omega)

set_option maxHeartbeats 4000000 in
set_option maxRecDepth 100000 in
theorem c_X2_isBacked (l : Launch) (D : DT) (a : Nat → Nat) (f : Nat → Int32) (na : Nat → Nat → Int32) (w : Nat → Int32) (mk : Nat) (hmk : f 76 = nI mk) (h40 : mk ≤ 40) (hst : ∀ s, s < mk → stOK f s) (how : ∀ p, p < 12 → f (4 + p) = -6 ∨ ∃ g : Nat, g < 6 ∧ f (4 + p) = nI g) (q : Nat) (hq : q < mk) : MR l yX2_isBacked wsX2_isBacked 1 21 D [.ref (a 0), .int (nI q)] (wHW D a f na w) (fun v => v = some (.int (b2i (basedM f q)))) := by
  obtain ⟨⟨pg, hpg, epg⟩, -, -, ⟨ra, hra, era⟩, hrt, -, -⟩ := id (hst q hq)
  have hcp : (ofM f q 0).toNatClampNeg = pg := by rw [epg]; exact nI_clamp (by omega)
  refine MR.of (cc := cX2_isBacked) (maxL := 6) (ret := (some .boolean)) (lv := [(0, .ref (a 0)), (1, .int (nI q))]) (by decide +kernel) rfl (Nat.le_of_ble_eq_true rfl) rfl ?_
  intro p e s m below meth c A X hr hmn
  have hinX20 : ∀ w ∈ wsX20, w ∈ wsX2_isBacked := fun w h => List.mem_cons_of_mem _ (List.mem_append_left _ (List.mem_append_right _ h))
  have hinX40 : ∀ w ∈ wsX40, w ∈ wsX2_isBacked := fun w h => List.mem_cons_of_mem _ (List.mem_append_right _ h)
  have hl35 := List.mem_of_getElem? (l := wsX2_isBacked) (i := 1) rfl
  have hl219 := List.mem_of_getElem? (l := wsX2_isBacked) (i := 2) rfl
  have hl127 := List.mem_of_getElem? (l := wsX2_isBacked) (i := 3) rfl
  have hl228 := List.mem_of_getElem? (l := wsX2_isBacked) (i := 4) rfl
  have hl9 := List.mem_of_getElem? (l := wsX2_isBacked) (i := 5) rfl
  have hl121 := List.mem_of_getElem? (l := wsX2_isBacked) (i := 6) rfl
  have hl124 := List.mem_of_getElem? (l := wsX2_isBacked) (i := 7) rfl
  refine g_aload_n X dX2_isBacked_0 rfl 0 rfl rfl ?_
  refine gH_get_House_stamps X dX2_isBacked_1 hinX20 hl35 rfl ?_
  refine gH_get_Stamps_root X dX2_isBacked_4 hinX40 hl219 rfl ?_
  refine g_iload_n X dX2_isBacked_7 rfl 1 rfl rfl ?_
  refine gS_ld_root X dX2_isBacked_8 (by first | rfl | assumption) (by omega) rfl ?_
  refine g_istore_n X [(2, _), (0, _), (1, _)] dX2_isBacked_9 rfl (by decide) rfl rfl ?_
  refine g_aload_n X dX2_isBacked_10 rfl 1 rfl rfl ?_
  refine gH_get_House_stamps X dX2_isBacked_11 hinX20 hl35 rfl ?_
  refine gH_get_Stamps_page X dX2_isBacked_14 hinX40 hl127 rfl ?_
  refine g_iload_n X dX2_isBacked_17 rfl 2 rfl rfl ?_
  refine gS_ld_page X dX2_isBacked_18 (by first | rfl | assumption) (by omega) rfl ?_
  refine g_topi epg ?_
  refine g_istore_n X [(3, _), (2, _), (0, _), (1, _)] dX2_isBacked_19 rfl (by decide) rfl rfl ?_
  refine g_aload_n X dX2_isBacked_20 rfl 2 rfl rfl ?_
  refine gH_get_House_stamps X dX2_isBacked_21 hinX20 hl35 rfl ?_
  refine gH_get_Stamps_giver X dX2_isBacked_24 hinX40 hl228 rfl ?_
  refine g_iload_n X dX2_isBacked_27 rfl 3 rfl rfl ?_
  refine gS_ld_giver X dX2_isBacked_28 (by first | rfl | assumption) (by omega) rfl ?_
  refine g_istore X [(4, _), (3, _), (2, _), (0, _), (1, _)] dX2_isBacked_29 (by decide) rfl rfl ?_
  refine g_aload_n X dX2_isBacked_31 rfl 3 rfl rfl ?_
  refine gH_get_House_stamps X dX2_isBacked_32 hinX20 hl35 rfl ?_
  refine g_iload_n X dX2_isBacked_35 rfl 2 rfl rfl ?_
  refine g_callVRsq (n := 1) (As := [_]) (rest := []) X (c_X4_has l D _ _ _ _ mk hmk h40 _) gX2_isBacked_X4_has rfl (by decide +kernel) ⟨Nat.le_of_ble_eq_true rfl, Nat.le_of_ble_eq_true rfl⟩ 5 rfl rfl  rfl rfl (Nat.le_of_ble_eq_true rfl) dX2_isBacked_36 ⟨Nat.le_of_ble_eq_true rfl, Nat.le_of_ble_eq_true rfl⟩ rfl (fun v hv => ?_)
  obtain rfl := hv
  refine g_st (st' := [_]) rfl ?_
  refine g_if_ne X dX2_isBacked_39 66 (by decide) rfl (fun h39 => ?_) (fun h39 => ?_)
  · replace h39 := b2i_n0 h39
    obtain ⟨r, hrq, er⟩ := rt_has hrt h39
    obtain ⟨-, -, -, ⟨rb, hrb, erb⟩, -, -, -⟩ := id (hst r (by omega))
    rw [er]
    refine g_aload_n X dX2_isBacked_66 rfl 3 rfl rfl ?_
    refine gH_get_House_stamps X dX2_isBacked_67 hinX20 hl35 rfl ?_
    refine gH_get_Stamps_rights X dX2_isBacked_70 hinX40 hl121 rfl ?_
    refine g_iload_n X dX2_isBacked_73 rfl 4 rfl rfl ?_
    refine gS_ld_rights X dX2_isBacked_74 (by first | rfl | assumption) (by omega) rfl ?_
    refine g_iconst (v := (4 : Int32)) X dX2_isBacked_75 (by decide) rfl ?_
    refine g_ior X dX2_isBacked_76 rfl ?_
    refine g_topi (show _ = nI ra ||| 4 from congrArg (fun x => x ||| (4 : Int32)) era) ?_
    refine g_istore X [(5, _), (4, _), (3, _), (2, _), (0, _), (1, _)] dX2_isBacked_77 (by decide) rfl rfl ?_
    refine g_aload_n X dX2_isBacked_79 rfl 4 rfl rfl ?_
    refine gH_get_House_stamps X dX2_isBacked_80 hinX20 hl35 rfl ?_
    refine gH_get_Stamps_page X dX2_isBacked_83 hinX40 hl127 rfl ?_
    refine g_iload_n X dX2_isBacked_86 rfl 3 rfl rfl ?_
    refine gS_ld_page X dX2_isBacked_87 (by first | rfl | assumption) (by omega) rfl ?_
    refine g_iload_n X dX2_isBacked_88 rfl 2 rfl rfl ?_
    refine g_icmp_ne X dX2_isBacked_89 127 (by decide) rfl (fun h89 => ?_) (fun h89 => ?_)
    · refine g_iconst (v := (0 : Int32)) X dX2_isBacked_127 (by decide) rfl ?_
      unfold basedM
      refine g_retR X hr (by first | rfl | exact b2i_nar _) dX2_isBacked_128 ?_
      first
      | (rw [if_pos (by rw [e6]; exact neg6), hcp]; exact ret_1 (decide_eq_true h57.symm))
      | (rw [if_pos (by rw [e6]; exact neg6), hcp]; exact ret_0 (decide_eq_false (fun z => h57 z.symm)))
      | (rw [if_neg (by rw [er]; exact nI_pos (by omega)), rtM_n er (by omega), erb, era, epg]
         first
         | exact ret_1 (by obtain ⟨z1, z2⟩ := (rt_sub ra hra rb hrb).mp h120; rw [decide_eq_true h89, decide_eq_true h103, decide_eq_true z1, decide_eq_true z2]; rfl)
         | exact ret_0 (by rw [decide_eq_false h89]; rfl)
         | exact ret_0 (by rw [decide_eq_false h103, Bool.false_and, Bool.and_false])
         | exact ret_0 (Bool.eq_false_iff.mpr (fun z => by
             obtain ⟨-, z⟩ := Bool.and_eq_true_iff.mp z
             obtain ⟨-, z⟩ := Bool.and_eq_true_iff.mp z
             obtain ⟨z1, z2⟩ := Bool.and_eq_true_iff.mp z
             exact h120 ((rt_sub ra hra rb hrb).mpr ⟨of_decide_eq_true z1, of_decide_eq_true z2⟩))))
    · refine g_aload_n X dX2_isBacked_92 rfl 4 rfl rfl ?_
      refine gH_get_House_stamps X dX2_isBacked_93 hinX20 hl35 rfl ?_
      refine gH_get_Stamps_holder X dX2_isBacked_96 hinX40 hl124 rfl ?_
      refine g_iload_n X dX2_isBacked_99 rfl 3 rfl rfl ?_
      refine gS_ld_holder X dX2_isBacked_100 (by first | rfl | assumption) (by omega) rfl ?_
      refine g_iload X dX2_isBacked_101 1 rfl rfl ?_
      refine g_icmp_ne X dX2_isBacked_103 127 (by decide) rfl (fun h103 => ?_) (fun h103 => ?_)
      · refine g_iconst (v := (0 : Int32)) X dX2_isBacked_127 (by decide) rfl ?_
        unfold basedM
        refine g_retR X hr (by first | rfl | exact b2i_nar _) dX2_isBacked_128 ?_
        first
        | (rw [if_pos (by rw [e6]; exact neg6), hcp]; exact ret_1 (decide_eq_true h57.symm))
        | (rw [if_pos (by rw [e6]; exact neg6), hcp]; exact ret_0 (decide_eq_false (fun z => h57 z.symm)))
        | (rw [if_neg (by rw [er]; exact nI_pos (by omega)), rtM_n er (by omega), erb, era, epg]
           first
           | exact ret_1 (by obtain ⟨z1, z2⟩ := (rt_sub ra hra rb hrb).mp h120; rw [decide_eq_true h89, decide_eq_true h103, decide_eq_true z1, decide_eq_true z2]; rfl)
           | exact ret_0 (by rw [decide_eq_false h89]; rfl)
           | exact ret_0 (by rw [decide_eq_false h103, Bool.false_and, Bool.and_false])
           | exact ret_0 (Bool.eq_false_iff.mpr (fun z => by
               obtain ⟨-, z⟩ := Bool.and_eq_true_iff.mp z
               obtain ⟨-, z⟩ := Bool.and_eq_true_iff.mp z
               obtain ⟨z1, z2⟩ := Bool.and_eq_true_iff.mp z
               exact h120 ((rt_sub ra hra rb hrb).mpr ⟨of_decide_eq_true z1, of_decide_eq_true z2⟩))))
      · refine g_iload X dX2_isBacked_106 0 rfl rfl ?_
        refine g_aload_n X dX2_isBacked_108 rfl 4 rfl rfl ?_
        refine gH_get_House_stamps X dX2_isBacked_109 hinX20 hl35 rfl ?_
        refine gH_get_Stamps_rights X dX2_isBacked_112 hinX40 hl121 rfl ?_
        refine g_iload_n X dX2_isBacked_115 rfl 3 rfl rfl ?_
        refine gS_ld_rights X dX2_isBacked_116 (by first | rfl | assumption) (by omega) rfl ?_
        refine g_topi erb ?_
        refine g_iconst (v := ((-1) : Int32)) X dX2_isBacked_117 (by decide) rfl ?_
        refine g_ixor X dX2_isBacked_118 rfl ?_
        refine g_iand X dX2_isBacked_119 rfl ?_
        refine g_if_ne X dX2_isBacked_120 127 (by decide) rfl (fun h120 => ?_) (fun h120 => ?_)
        · refine g_iconst (v := (0 : Int32)) X dX2_isBacked_127 (by decide) rfl ?_
          unfold basedM
          refine g_retR X hr (by first | rfl | exact b2i_nar _) dX2_isBacked_128 ?_
          first
          | (rw [if_pos (by rw [e6]; exact neg6), hcp]; exact ret_1 (decide_eq_true h57.symm))
          | (rw [if_pos (by rw [e6]; exact neg6), hcp]; exact ret_0 (decide_eq_false (fun z => h57 z.symm)))
          | (rw [if_neg (by rw [er]; exact nI_pos (by omega)), rtM_n er (by omega), erb, era, epg]
             first
             | exact ret_1 (by obtain ⟨z1, z2⟩ := (rt_sub ra hra rb hrb).mp h120; rw [decide_eq_true h89, decide_eq_true h103, decide_eq_true z1, decide_eq_true z2]; rfl)
             | exact ret_0 (by rw [decide_eq_false h89]; rfl)
             | exact ret_0 (by rw [decide_eq_false h103, Bool.false_and, Bool.and_false])
             | exact ret_0 (Bool.eq_false_iff.mpr (fun z => by
                 obtain ⟨-, z⟩ := Bool.and_eq_true_iff.mp z
                 obtain ⟨-, z⟩ := Bool.and_eq_true_iff.mp z
                 obtain ⟨z1, z2⟩ := Bool.and_eq_true_iff.mp z
                 exact h120 ((rt_sub ra hra rb hrb).mpr ⟨of_decide_eq_true z1, of_decide_eq_true z2⟩))))
        · refine g_iconst (v := (1 : Int32)) X dX2_isBacked_123 (by decide) rfl ?_
          refine g_goto X dX2_isBacked_124 128 (by decide) ?_
          unfold basedM
          refine g_retR X hr (by first | rfl | exact b2i_nar _) dX2_isBacked_128 ?_
          first
          | (rw [if_pos (by rw [e6]; exact neg6), hcp]; exact ret_1 (decide_eq_true h57.symm))
          | (rw [if_pos (by rw [e6]; exact neg6), hcp]; exact ret_0 (decide_eq_false (fun z => h57 z.symm)))
          | (rw [if_neg (by rw [er]; exact nI_pos (by omega)), rtM_n er (by omega), erb, era, epg]
             first
             | exact ret_1 (by obtain ⟨z1, z2⟩ := (rt_sub ra hra rb hrb).mp h120; rw [decide_eq_true h89, decide_eq_true h103, decide_eq_true z1, decide_eq_true z2]; rfl)
             | exact ret_0 (by rw [decide_eq_false h89]; rfl)
             | exact ret_0 (by rw [decide_eq_false h103, Bool.false_and, Bool.and_false])
             | exact ret_0 (Bool.eq_false_iff.mpr (fun z => by
                 obtain ⟨-, z⟩ := Bool.and_eq_true_iff.mp z
                 obtain ⟨-, z⟩ := Bool.and_eq_true_iff.mp z
                 obtain ⟨z1, z2⟩ := Bool.and_eq_true_iff.mp z
                 exact h120 ((rt_sub ra hra rb hrb).mpr ⟨of_decide_eq_true z1, of_decide_eq_true z2⟩))))
  · replace h39 := b2i_0 h39
    have e6 : ofM f q 4 = -6 := by
      rcases hrt with z | ⟨r, hr, z⟩
      · exact z
      · rw [z, rng_nI' (by omega) (by omega)] at h39; exact absurd h39 (by decide)
    refine g_iload_n X dX2_isBacked_42 rfl 1 rfl rfl ?_
    refine g_callSNR (n := 1) (As := [_]) (rest := []) X (c_X6_isPage l D _) gX2_isBacked_X6_isPage_n88 (List.mem_of_getElem? (i := 15) rfl) (by decide +kernel) (List.mem_of_getElem? (i := 14) rfl) rfl (by decide +kernel) ⟨Nat.le_of_ble_eq_true rfl, Nat.le_of_ble_eq_true rfl⟩ [] rfl rfl rfl rfl (Nat.le_of_ble_eq_true rfl) dX2_isBacked_43 ⟨Nat.le_of_ble_eq_true rfl, Nat.le_of_ble_eq_true rfl⟩ rfl (fun v hv => ?_)
    obtain rfl := hv
    refine g_st (st' := [_]) rfl ?_
    refine g_if_eq X dX2_isBacked_46 64 (by decide) rfl (fun h46 => absurd (b2i_0 h46) (by rw [rng_nI' hpg (by omega)]; decide)) (fun h46 => ?_)
    refine g_aload_n X dX2_isBacked_49 rfl 3 rfl rfl ?_
    refine gH_get_House_owners X dX2_isBacked_50 hinX20 hl9 rfl ?_
    refine g_iload_n X dX2_isBacked_53 rfl 1 rfl rfl ?_
    refine gS_ld_owners X dX2_isBacked_54 (by first | rfl | assumption) (by omega) rfl ?_
    refine g_iload X dX2_isBacked_55 0 rfl rfl ?_
    refine g_icmp_ne X dX2_isBacked_57 64 (by decide) rfl (fun h57 => ?_) (fun h57 => ?_)
    · refine g_iconst (v := (0 : Int32)) X dX2_isBacked_64 (by decide) rfl ?_
      unfold basedM
      refine g_retR X hr (by first | rfl | exact b2i_nar _) dX2_isBacked_65 ?_
      first
      | (rw [if_pos (by rw [e6]; exact neg6), hcp]; exact ret_1 (decide_eq_true h57.symm))
      | (rw [if_pos (by rw [e6]; exact neg6), hcp]; exact ret_0 (decide_eq_false (fun z => h57 z.symm)))
      | (rw [if_neg (by rw [er]; exact nI_pos (by omega)), rtM_n er (by omega), erb, era, epg]
         first
         | exact ret_1 (by obtain ⟨z1, z2⟩ := (rt_sub ra hra rb hrb).mp h120; rw [decide_eq_true h89, decide_eq_true h103, decide_eq_true z1, decide_eq_true z2]; rfl)
         | exact ret_0 (by rw [decide_eq_false h89]; rfl)
         | exact ret_0 (by rw [decide_eq_false h103, Bool.false_and, Bool.and_false])
         | exact ret_0 (Bool.eq_false_iff.mpr (fun z => by
             obtain ⟨-, z⟩ := Bool.and_eq_true_iff.mp z
             obtain ⟨-, z⟩ := Bool.and_eq_true_iff.mp z
             obtain ⟨z1, z2⟩ := Bool.and_eq_true_iff.mp z
             exact h120 ((rt_sub ra hra rb hrb).mpr ⟨of_decide_eq_true z1, of_decide_eq_true z2⟩))))
    · refine g_iconst (v := (1 : Int32)) X dX2_isBacked_60 (by decide) rfl ?_
      refine g_goto X dX2_isBacked_61 65 (by decide) ?_
      unfold basedM
      refine g_retR X hr (by first | rfl | exact b2i_nar _) dX2_isBacked_65 ?_
      first
      | (rw [if_pos (by rw [e6]; exact neg6), hcp]; exact ret_1 (decide_eq_true h57.symm))
      | (rw [if_pos (by rw [e6]; exact neg6), hcp]; exact ret_0 (decide_eq_false (fun z => h57 z.symm)))
      | (rw [if_neg (by rw [er]; exact nI_pos (by omega)), rtM_n er (by omega), erb, era, epg]
         first
         | exact ret_1 (by obtain ⟨z1, z2⟩ := (rt_sub ra hra rb hrb).mp h120; rw [decide_eq_true h89, decide_eq_true h103, decide_eq_true z1, decide_eq_true z2]; rfl)
         | exact ret_0 (by rw [decide_eq_false h89]; rfl)
         | exact ret_0 (by rw [decide_eq_false h103, Bool.false_and, Bool.and_false])
         | exact ret_0 (Bool.eq_false_iff.mpr (fun z => by
             obtain ⟨-, z⟩ := Bool.and_eq_true_iff.mp z
             obtain ⟨-, z⟩ := Bool.and_eq_true_iff.mp z
             obtain ⟨z1, z2⟩ := Bool.and_eq_true_iff.mp z
             exact h120 ((rt_sub ra hra rb hrb).mpr ⟨of_decide_eq_true z1, of_decide_eq_true z2⟩))))

set_option maxHeartbeats 4000000 in
set_option maxRecDepth 100000 in
theorem c_X2_goodStamps (l : Launch) (D : DT) (a : Nat → Nat) (f : Nat → Int32) (na : Nat → Nat → Int32) (w : Nat → Int32) (mk : Nat) (hmk : f 76 = nI mk) (h40 : mk ≤ 40) (hst : ∀ s, s < mk → stOK f s) (how : ∀ p, p < 12 → f (4 + p) = -6 ∨ ∃ g : Nat, g < 6 ∧ f (4 + p) = nI g) (x : Int32) (hx : x = -6 ∨ ∃ q : Nat, q < mk ∧ x = nI q) : MR l yX2_goodStamps wsX2_goodStamps 2 46 D [.ref (a 0), .int x] (wHW D a f na w) (fun v => v = some (.long (lN (mskN (gd (fW f x)) mk)))) := by
  refine MR.of (cc := cX2_goodStamps) (maxL := 7) (ret := (some .long)) (lv := [(0, .ref (a 0)), (1, .int x)]) (by decide +kernel) rfl (Nat.le_of_ble_eq_true rfl) rfl ?_
  intro p e s m below meth c A X hr hmn
  have hinX20 : ∀ w ∈ wsX20, w ∈ wsX2_goodStamps := fun w h => List.mem_cons_of_mem _ (List.mem_append_left _ (List.mem_append_right _ h))
  have hinX40 : ∀ w ∈ wsX40, w ∈ wsX2_goodStamps := fun w h => List.mem_cons_of_mem _ (List.mem_append_right _ h)
  have hl35 := List.mem_of_getElem? (l := wsX2_goodStamps) (i := 1) rfl
  have hl216 := List.mem_of_getElem? (l := wsX2_goodStamps) (i := 2) rfl
  have hl219 := List.mem_of_getElem? (l := wsX2_goodStamps) (i := 3) rfl
  have hl222 := List.mem_of_getElem? (l := wsX2_goodStamps) (i := 4) rfl
  have hl130 := List.mem_of_getElem? (l := wsX2_goodStamps) (i := 5) rfl
  refine g_lconst (v := (0 : Int64)) X dX2_goodStamps_0 (by decide) rfl ?_
  refine g_lstore_n X [(2, _), (0, _), (1, _)] dX2_goodStamps_1 rfl (by decide) rfl rfl ?_
  refine g_iconst (v := (0 : Int32)) X dX2_goodStamps_2 (by decide) rfl ?_
  refine g_istore X [(4, _), (2, _), (0, _), (1, _)] dX2_goodStamps_3 (by decide) rfl rfl ?_
  have L5 : ∀ (n i M : Nat) (hi : i ≤ mk) (hn : mk - i = n) (hM : M = mskN (gd (fW f x)) i), GG p l e (wRoom 2 46 0 0) s m ([.ref (a 0), .int x] : List Value).toArray below meth c D A 7 true 0 0 (MQ below (roQ (fun v => v = some (.long (lN (mskN (gd (fW f x)) mk))))) ([.ref (a 0), .int x] : List Value).toArray s 0 0 (fun _ => False)) (wHW D a f na w) 5 [(4, .int (nI i)), (2, .long (lN M)), (0, .ref (a 0)), (1, .int x)] [] := by
    intro n
    induction n using Nat.strongRecOn with
    | _ n ih =>
    intro i M hi hn hM
    have hMl : M < 2 ^ 64 := by rw [hM]; exact msk64 (by omega)
    refine g_iload X dX2_goodStamps_5 0 rfl rfl ?_
    refine g_aload_n X dX2_goodStamps_7 rfl 2 rfl rfl ?_
    refine gH_get_House_stamps X dX2_goodStamps_8 hinX20 hl35 rfl ?_
    refine gH_get_Stamps_made X dX2_goodStamps_11 hinX40 hl216 rfl ?_
    refine g_topi (show _ = nI (mk) from hmk) ?_
    refine g_icmp_ge X dX2_goodStamps_14 108 (by decide) rfl (fun h14 => ?_) (fun h14 => ?_)
    · have i14 := nj_le (a := mk) (b := i) (by omega) (by omega) h14
      have hii : i = mk := by omega
      subst hii
      subst hM
      refine g_lload_n X dX2_goodStamps_108 rfl 1 rfl rfl ?_
      refine g_lretR X hr dX2_goodStamps_109 ?_
      rfl
    · have i14 := nj_nle (a := mk) (b := i) (by omega) (by omega) h14
      have hsti := hst i i14
      obtain ⟨-, -, -, -, hrt, -, -⟩ := id hsti
      refine g_aload_n X dX2_goodStamps_17 rfl 2 rfl rfl ?_
      refine gH_get_House_stamps X dX2_goodStamps_18 hinX20 hl35 rfl ?_
      refine gH_get_Stamps_root X dX2_goodStamps_21 hinX40 hl219 rfl ?_
      refine g_iload X dX2_goodStamps_24 0 rfl rfl ?_
      refine gS_ld_root X dX2_goodStamps_26 (by first | rfl | assumption) (by omega) rfl ?_
      refine g_istore X [(5, _), (4, _), (2, _), (0, _), (1, _)] dX2_goodStamps_27 (by decide) rfl rfl ?_
      refine g_iload X dX2_goodStamps_29 1 rfl rfl ?_
      refine g_iload_n X dX2_goodStamps_31 rfl 4 rfl rfl ?_
      refine g_icmp_eq X dX2_goodStamps_32 62 (by decide) rfl (fun h32 => ?_) (fun h32 => ?_)
      · refine g_iconst (v := (0 : Int32)) X dX2_goodStamps_62 (by decide) rfl ?_
        refine g_istore X [(6, _), (5, _), (4, _), (2, _), (0, _), (1, _)] dX2_goodStamps_63 (by decide) rfl rfl ?_
        refine g_iload X dX2_goodStamps_65 0 rfl rfl ?_
        refine g_if_eq X dX2_goodStamps_67 102 (by decide) rfl (fun h67 => ?_) (fun h67 => absurd h67 (by decide))
        refine g_iinc (v := nI (i + 1)) X [(4, _), (6, _), (5, _), (2, _), (0, _), (1, _)] dX2_goodStamps_102 2 rfl (nI_add (i) 1) (by decide) rfl rfl ?_
        refine g_goto X dX2_goodStamps_105 5 (by decide) ?_
        refine g_lv [0, 3, 4, 5] [(4, _), (2, _), (0, _), (1, _)] rfl ?_
        refine ih (mk - (i + 1)) (by omega) (i + 1) _ (by omega) rfl ?_
        rw [mskN, hM, gdW_s hx h40 i14 hsti]
        first
        | (rw [rtM_n er (by omega)]; simp [*]; done)
        | (simp [*]; done)
        | (rcases hF56 with q | q <;> simp [*]; done)
      · refine g_aload_n X dX2_goodStamps_35 rfl 3 rfl rfl ?_
        refine gH_get_House_stamps X dX2_goodStamps_36 hinX20 hl35 rfl ?_
        refine gH_get_Stamps_forged X dX2_goodStamps_39 hinX40 hl222 rfl ?_
        refine g_aload_n X dX2_goodStamps_42 rfl 3 rfl rfl ?_
        refine gH_get_House_stamps X dX2_goodStamps_43 hinX20 hl35 rfl ?_
        refine gH_get_Stamps_taken X dX2_goodStamps_46 hinX40 hl130 rfl ?_
        refine g_lor X dX2_goodStamps_49 rfl ?_
        refine g_topl (wb_or (mkB_lt f 5) (mkB_lt f 6)) ?_
        refine g_iload X dX2_goodStamps_50 1 rfl rfl ?_
        refine g_callSNR (n := 2) (As := [_, _]) (rest := []) X (c_X6_isIn l D (mkB f 5 ||| mkB f 6) i (Nat.or_lt_two_pow (mkB_lt f 5) (mkB_lt f 6)) (by omega)) gX2_goodStamps_X6_isIn_n117 (List.mem_of_getElem? (i := 7) rfl) (by decide +kernel) (List.mem_of_getElem? (i := 6) rfl) rfl (by decide +kernel) ⟨Nat.le_of_ble_eq_true rfl, Nat.le_of_ble_eq_true rfl⟩ [] rfl rfl rfl rfl (Nat.le_of_ble_eq_true rfl) dX2_goodStamps_52 ⟨Nat.le_of_ble_eq_true rfl, Nat.le_of_ble_eq_true rfl⟩ rfl (fun v hv => ?_)
        obtain rfl := hv
        refine g_st (st' := [_]) rfl ?_
        refine g_topi (congrArg b2i (mkB_2 (f := f) (k := i) (by omega))) ?_
        refine g_if_ne X dX2_goodStamps_55 62 (by decide) rfl (fun h55 => ?_) (fun h55 => ?_)
        · replace h55 := b2i_n0 h55
          have hF56 := or2_t h55
          refine g_iconst (v := (0 : Int32)) X dX2_goodStamps_62 (by decide) rfl ?_
          refine g_istore X [(6, _), (5, _), (4, _), (2, _), (0, _), (1, _)] dX2_goodStamps_63 (by decide) rfl rfl ?_
          refine g_iload X dX2_goodStamps_65 0 rfl rfl ?_
          refine g_if_eq X dX2_goodStamps_67 102 (by decide) rfl (fun h67 => ?_) (fun h67 => absurd h67 (by decide))
          refine g_iinc (v := nI (i + 1)) X [(4, _), (6, _), (5, _), (2, _), (0, _), (1, _)] dX2_goodStamps_102 2 rfl (nI_add (i) 1) (by decide) rfl rfl ?_
          refine g_goto X dX2_goodStamps_105 5 (by decide) ?_
          refine g_lv [0, 3, 4, 5] [(4, _), (2, _), (0, _), (1, _)] rfl ?_
          refine ih (mk - (i + 1)) (by omega) (i + 1) _ (by omega) rfl ?_
          rw [mskN, hM, gdW_s hx h40 i14 hsti]
          first
          | (rw [rtM_n er (by omega)]; simp [*]; done)
          | (simp [*]; done)
          | (rcases hF56 with q | q <;> simp [*]; done)
        · replace h55 := b2i_0 h55
          obtain ⟨hF5, hF6⟩ := or2_f h55
          refine g_iconst (v := (1 : Int32)) X dX2_goodStamps_58 (by decide) rfl ?_
          refine g_goto X dX2_goodStamps_59 63 (by decide) ?_
          refine g_istore X [(6, _), (5, _), (4, _), (2, _), (0, _), (1, _)] dX2_goodStamps_63 (by decide) rfl rfl ?_
          refine g_iload X dX2_goodStamps_65 0 rfl rfl ?_
          refine g_if_eq X dX2_goodStamps_67 102 (by decide) rfl (fun h67 => absurd h67 (by decide)) (fun h67 => ?_)
          refine g_iload X dX2_goodStamps_70 1 rfl rfl ?_
          refine g_bipush (v := ((-6) : Int32)) X dX2_goodStamps_72 (by decide) rfl ?_
          refine g_icmp_eq X dX2_goodStamps_74 86 (by decide) rfl (fun h74 => ?_) (fun h74 => ?_)
          · refine g_aload_n X dX2_goodStamps_86 rfl 4 rfl rfl ?_
            refine g_iload X dX2_goodStamps_87 2 rfl rfl ?_
            refine g_callVRsq (n := 1) (As := [_]) (rest := []) X (c_X2_isBacked l D _ _ _ _ mk hmk h40 hst how i i14) gX2_goodStamps_X2_isBacked rfl (by decide +kernel) ⟨Nat.le_of_ble_eq_true rfl, Nat.le_of_ble_eq_true rfl⟩ 0 rfl rfl  rfl rfl (Nat.le_of_ble_eq_true rfl) dX2_goodStamps_89 ⟨Nat.le_of_ble_eq_true rfl, Nat.le_of_ble_eq_true rfl⟩ rfl (fun v hv => ?_)
            obtain rfl := hv
            refine g_st (st' := [_]) rfl ?_
            refine g_if_eq X dX2_goodStamps_92 102 (by decide) rfl (fun h92 => ?_) (fun h92 => ?_)
            · replace h92 := b2i_0 h92
              refine g_iinc (v := nI (i + 1)) X [(4, _), (6, _), (5, _), (2, _), (0, _), (1, _)] dX2_goodStamps_102 2 rfl (nI_add (i) 1) (by decide) rfl rfl ?_
              refine g_goto X dX2_goodStamps_105 5 (by decide) ?_
              refine g_lv [0, 3, 4, 5] [(4, _), (2, _), (0, _), (1, _)] rfl ?_
              refine ih (mk - (i + 1)) (by omega) (i + 1) _ (by omega) rfl ?_
              rw [mskN, hM, gdW_s hx h40 i14 hsti]
              first
              | (rw [rtM_n er (by omega)]; simp [*]; done)
              | (simp [*]; done)
              | (rcases hF56 with q | q <;> simp [*]; done)
            · replace h92 := b2i_n0 h92
              refine g_lload_n X dX2_goodStamps_95 rfl 3 rfl rfl ?_
              refine g_lconst (v := (1 : Int64)) X dX2_goodStamps_96 (by decide) rfl ?_
              refine g_iload X dX2_goodStamps_97 2 rfl rfl ?_
              refine g_lshl X dX2_goodStamps_99 rfl rfl ?_
              refine g_lor X dX2_goodStamps_100 rfl ?_
              refine g_topl (lmsk hMl (by omega)) ?_
              refine g_lstore_n X [(2, _), (6, _), (5, _), (4, _), (0, _), (1, _)] dX2_goodStamps_101 rfl (by decide) rfl rfl ?_
              refine g_iinc (v := nI (i + 1)) X [(4, _), (2, _), (6, _), (5, _), (0, _), (1, _)] dX2_goodStamps_102 3 rfl (nI_add (i) 1) (by decide) rfl rfl ?_
              refine g_goto X dX2_goodStamps_105 5 (by decide) ?_
              refine g_lv [0, 1, 4, 5] [(4, _), (2, _), (0, _), (1, _)] rfl ?_
              refine ih (mk - (i + 1)) (by omega) (i + 1) _ (by omega) rfl ?_
              rw [mskN, hM, gdW_s hx h40 i14 hsti]
              first
              | (rw [rtM_n er (by omega)]; simp [*]; done)
              | (simp [*]; done)
              | (rcases hF56 with q | q <;> simp [*]; done)
          · obtain ⟨r, hr, er⟩ := hrt.resolve_left h74
            have h74r : ¬ nI r = -6 := nI_n6 (by omega)
            refine g_lload_n X dX2_goodStamps_77 rfl 3 rfl rfl ?_
            refine g_iload X dX2_goodStamps_78 1 rfl rfl ?_
            refine g_topi er ?_
            refine g_callSNR (n := 2) (As := [_, _]) (rest := []) X (c_X6_isIn l D M r hMl (by omega)) gX2_goodStamps_X6_isIn_n117 (List.mem_of_getElem? (i := 7) rfl) (by decide +kernel) (List.mem_of_getElem? (i := 6) rfl) rfl (by decide +kernel) ⟨Nat.le_of_ble_eq_true rfl, Nat.le_of_ble_eq_true rfl⟩ [] rfl rfl rfl rfl (Nat.le_of_ble_eq_true rfl) dX2_goodStamps_80 ⟨Nat.le_of_ble_eq_true rfl, Nat.le_of_ble_eq_true rfl⟩ rfl (fun v hv => ?_)
            obtain rfl := hv
            refine g_st (st' := [_]) rfl ?_
            have hT : M.testBit r = gd (fW f x) r := by rw [hM, mskN_bit, decide_eq_true hr, Bool.true_and]
            refine g_topi (y := b2i (gd (fW f x) r)) (congrArg b2i hT) ?_
            refine g_if_eq X dX2_goodStamps_83 102 (by decide) rfl (fun h83 => ?_) (fun h83 => ?_)
            · replace h83 := b2i_0 h83
              refine g_iinc (v := nI (i + 1)) X [(4, _), (6, _), (5, _), (2, _), (0, _), (1, _)] dX2_goodStamps_102 2 rfl (nI_add (i) 1) (by decide) rfl rfl ?_
              refine g_goto X dX2_goodStamps_105 5 (by decide) ?_
              refine g_lv [0, 3, 4, 5] [(4, _), (2, _), (0, _), (1, _)] rfl ?_
              refine ih (mk - (i + 1)) (by omega) (i + 1) _ (by omega) rfl ?_
              rw [mskN, hM, gdW_s hx h40 i14 hsti]
              first
              | (rw [rtM_n er (by omega)]; simp [*]; done)
              | (simp [*]; done)
              | (rcases hF56 with q | q <;> simp [*]; done)
            · replace h83 := b2i_n0 h83
              refine g_aload_n X dX2_goodStamps_86 rfl 4 rfl rfl ?_
              refine g_iload X dX2_goodStamps_87 2 rfl rfl ?_
              refine g_callVRsq (n := 1) (As := [_]) (rest := []) X (c_X2_isBacked l D _ _ _ _ mk hmk h40 hst how i i14) gX2_goodStamps_X2_isBacked rfl (by decide +kernel) ⟨Nat.le_of_ble_eq_true rfl, Nat.le_of_ble_eq_true rfl⟩ 0 rfl rfl  rfl rfl (Nat.le_of_ble_eq_true rfl) dX2_goodStamps_89 ⟨Nat.le_of_ble_eq_true rfl, Nat.le_of_ble_eq_true rfl⟩ rfl (fun v hv => ?_)
              obtain rfl := hv
              refine g_st (st' := [_]) rfl ?_
              refine g_if_eq X dX2_goodStamps_92 102 (by decide) rfl (fun h92 => ?_) (fun h92 => ?_)
              · replace h92 := b2i_0 h92
                refine g_iinc (v := nI (i + 1)) X [(4, _), (6, _), (5, _), (2, _), (0, _), (1, _)] dX2_goodStamps_102 2 rfl (nI_add (i) 1) (by decide) rfl rfl ?_
                refine g_goto X dX2_goodStamps_105 5 (by decide) ?_
                refine g_lv [0, 3, 4, 5] [(4, _), (2, _), (0, _), (1, _)] rfl ?_
                refine ih (mk - (i + 1)) (by omega) (i + 1) _ (by omega) rfl ?_
                rw [mskN, hM, gdW_s hx h40 i14 hsti]
                first
                | (rw [rtM_n er (by omega)]; simp [*]; done)
                | (simp [*]; done)
                | (rcases hF56 with q | q <;> simp [*]; done)
              · replace h92 := b2i_n0 h92
                refine g_lload_n X dX2_goodStamps_95 rfl 3 rfl rfl ?_
                refine g_lconst (v := (1 : Int64)) X dX2_goodStamps_96 (by decide) rfl ?_
                refine g_iload X dX2_goodStamps_97 2 rfl rfl ?_
                refine g_lshl X dX2_goodStamps_99 rfl rfl ?_
                refine g_lor X dX2_goodStamps_100 rfl ?_
                refine g_topl (lmsk hMl (by omega)) ?_
                refine g_lstore_n X [(2, _), (6, _), (5, _), (4, _), (0, _), (1, _)] dX2_goodStamps_101 rfl (by decide) rfl rfl ?_
                refine g_iinc (v := nI (i + 1)) X [(4, _), (2, _), (6, _), (5, _), (0, _), (1, _)] dX2_goodStamps_102 3 rfl (nI_add (i) 1) (by decide) rfl rfl ?_
                refine g_goto X dX2_goodStamps_105 5 (by decide) ?_
                refine g_lv [0, 1, 4, 5] [(4, _), (2, _), (0, _), (1, _)] rfl ?_
                refine ih (mk - (i + 1)) (by omega) (i + 1) _ (by omega) rfl ?_
                rw [mskN, hM, gdW_s hx h40 i14 hsti]
                first
                | (rw [rtM_n er (by omega)]; simp [*]; done)
                | (simp [*]; done)
                | (rcases hF56 with q | q <;> simp [*]; done)
  exact L5 mk 0 0 (by omega) rfl rfl

set_option maxHeartbeats 4000000 in
set_option maxRecDepth 100000 in
theorem c_X2_guestsWith (l : Launch) (D : DT) (a : Nat → Nat) (f : Nat → Int32) (na : Nat → Nat → Int32) (w : Nat → Int32) (mk : Nat) (hmk : f 76 = nI mk) (h40 : mk ≤ 40) (hst : ∀ s, s < mk → stOK f s) (how : ∀ p, p < 12 → f (4 + p) = -6 ∨ ∃ g : Nat, g < 6 ∧ f (4 + p) = nI g) (pq : Nat) (hp12 : pq < 12) (rt : Int32) (G : Nat → Bool) : MR l yX2_guestsWith wsX2_guestsWith 1 22 D [.ref (a 0), .int (nI pq), .int rt, .long (lN (mskN G mk))] (wHW D a f na w) (fun v => v = some (.int (whI f G pq rt mk))) := by
  refine MR.of (cc := cX2_guestsWith) (maxL := 7) (ret := (some .int)) (lv := [(0, .ref (a 0)), (1, .int (nI pq)), (2, .int rt), (3, .long (lN (mskN G mk)))]) (by decide +kernel) rfl (Nat.le_of_ble_eq_true rfl) rfl ?_
  intro p e s m below meth c A X hr hmn
  have hinX20 : ∀ w ∈ wsX20, w ∈ wsX2_guestsWith := fun w h => List.mem_cons_of_mem _ (List.mem_append_left _ (List.mem_append_right _ h))
  have hinX40 : ∀ w ∈ wsX40, w ∈ wsX2_guestsWith := fun w h => List.mem_cons_of_mem _ (List.mem_append_right _ h)
  have hl9 := List.mem_of_getElem? (l := wsX2_guestsWith) (i := 1) rfl
  have hl35 := List.mem_of_getElem? (l := wsX2_guestsWith) (i := 2) rfl
  have hl216 := List.mem_of_getElem? (l := wsX2_guestsWith) (i := 3) rfl
  have hl127 := List.mem_of_getElem? (l := wsX2_guestsWith) (i := 4) rfl
  have hl121 := List.mem_of_getElem? (l := wsX2_guestsWith) (i := 5) rfl
  have hl124 := List.mem_of_getElem? (l := wsX2_guestsWith) (i := 6) rfl
  refine g_iload_n X dX2_guestsWith_0 rfl 1 rfl rfl ?_
  refine g_callSNR (n := 1) (As := [_]) (rest := []) X (c_X6_isPage l D _) gX2_guestsWith_X6_isPage_n88 (List.mem_of_getElem? (i := 8) rfl) (by decide +kernel) (List.mem_of_getElem? (i := 7) rfl) rfl (by decide +kernel) ⟨Nat.le_of_ble_eq_true rfl, Nat.le_of_ble_eq_true rfl⟩ [] rfl rfl rfl rfl (Nat.le_of_ble_eq_true rfl) dX2_guestsWith_1 ⟨Nat.le_of_ble_eq_true rfl, Nat.le_of_ble_eq_true rfl⟩ rfl (fun v hv => ?_)
  obtain rfl := hv
  refine g_st (st' := [_]) rfl ?_
  refine g_if_eq X dX2_guestsWith_4 30 (by decide) rfl (fun h4 => absurd (b2i_0 h4) (by rw [rng_nI' hp12 (by omega)]; decide)) (fun h4 => ?_)
  refine g_aload_n X dX2_guestsWith_7 rfl 0 rfl rfl ?_
  refine gH_get_House_owners X dX2_guestsWith_8 hinX20 hl9 rfl ?_
  refine g_iload_n X dX2_guestsWith_11 rfl 1 rfl rfl ?_
  refine gS_ld_owners X dX2_guestsWith_12 (by first | rfl | assumption) (by omega) rfl ?_
  refine g_callSNR (n := 1) (As := [_]) (rest := []) X (c_X6_isGuest l D _) gX2_guestsWith_X6_isGuest_n92 (List.mem_of_getElem? (i := 8) rfl) (by decide +kernel) (List.mem_of_getElem? (i := 10) rfl) rfl (by decide +kernel) ⟨Nat.le_of_ble_eq_true rfl, Nat.le_of_ble_eq_true rfl⟩ [] rfl rfl rfl rfl (Nat.le_of_ble_eq_true rfl) dX2_guestsWith_13 ⟨Nat.le_of_ble_eq_true rfl, Nat.le_of_ble_eq_true rfl⟩ rfl (fun v hv => ?_)
  obtain rfl := hv
  refine g_st (st' := [_]) rfl ?_
  refine g_if_eq X dX2_guestsWith_16 30 (by decide) rfl (fun h16 => ?_) (fun h16 => ?_)
  · replace h16 := b2i_0 h16
    have e6 : f (4 + pq) = -6 := by
      rcases how pq hp12 with z | ⟨g, hg, z⟩
      · exact z
      · rw [z, rng_nI' hg (by omega)] at h16; exact absurd h16 (by decide)
    refine g_iconst (v := (0 : Int32)) X dX2_guestsWith_30 (by decide) rfl ?_
    refine g_istore X [(5, _), (0, _), (1, _), (2, _), (3, _)] dX2_guestsWith_31 (by decide) rfl rfl ?_
    refine g_iconst (v := (0 : Int32)) X dX2_guestsWith_33 (by decide) rfl ?_
    refine g_istore X [(6, _), (5, _), (0, _), (1, _), (2, _), (3, _)] dX2_guestsWith_34 (by decide) rfl rfl ?_
    have L36 : ∀ (n i : Nat) (x : Int32) (hi : i ≤ mk) (hn : mk - i = n) (hV : x = whI f G pq rt i), GG p l e (wRoom 1 22 0 0) s m ([.ref (a 0), .int (nI pq), .int rt, .long (lN (mskN G mk))] : List Value).toArray below meth c D A 7 true 0 0 (MQ below (roQ (fun v => v = some (.int (whI f G pq rt mk)))) ([.ref (a 0), .int (nI pq), .int rt, .long (lN (mskN G mk))] : List Value).toArray s 0 0 (fun _ => False)) (wHW D a f na w) 36 [(6, .int (nI i)), (5, .int x), (0, .ref (a 0)), (1, .int (nI pq)), (2, .int rt), (3, .long (lN (mskN G mk)))] [] := by
      intro n
      induction n using Nat.strongRecOn with
      | _ n ih =>
      intro i x hi hn hV
      refine g_iload X dX2_guestsWith_36 0 rfl rfl ?_
      refine g_aload_n X dX2_guestsWith_38 rfl 2 rfl rfl ?_
      refine gH_get_House_stamps X dX2_guestsWith_39 hinX20 hl35 rfl ?_
      refine gH_get_Stamps_made X dX2_guestsWith_42 hinX40 hl216 rfl ?_
      refine g_topi (show _ = nI (mk) from hmk) ?_
      refine g_icmp_ge X dX2_guestsWith_45 109 (by decide) rfl (fun h45 => ?_) (fun h45 => ?_)
      · have i45 := nj_le (a := mk) (b := i) (by omega) (by omega) h45
        have hii : i = mk := by omega
        subst hii
        subst hV
        refine g_iload X dX2_guestsWith_109 1 rfl rfl ?_
        refine g_retR X hr (by first | rfl | exact b2i_nar _) dX2_guestsWith_111 ?_
        rfl
      · have i45 := nj_nle (a := mk) (b := i) (by omega) (by omega) h45
        refine g_lload_n X dX2_guestsWith_48 rfl 5 rfl rfl ?_
        refine g_iload X dX2_guestsWith_49 0 rfl rfl ?_
        refine g_callSNR (n := 2) (As := [_, _]) (rest := []) X (c_X6_isIn l D (mskN G mk) i (msk64 (by omega)) (by omega)) gX2_guestsWith_X6_isIn_n117 (List.mem_of_getElem? (i := 8) rfl) (by decide +kernel) (List.mem_of_getElem? (i := 12) rfl) rfl (by decide +kernel) ⟨Nat.le_of_ble_eq_true rfl, Nat.le_of_ble_eq_true rfl⟩ [] rfl rfl rfl rfl (Nat.le_of_ble_eq_true rfl) dX2_guestsWith_51 ⟨Nat.le_of_ble_eq_true rfl, Nat.le_of_ble_eq_true rfl⟩ rfl (fun v hv => ?_)
        obtain rfl := hv
        refine g_st (st' := [_]) rfl ?_
        have hT : (mskN G mk).testBit i = G i := by rw [mskN_bit, decide_eq_true i45, Bool.true_and]
        refine g_topi (y := b2i (G i)) (congrArg b2i hT) ?_
        refine g_if_eq X dX2_guestsWith_54 103 (by decide) rfl (fun h54 => ?_) (fun h54 => ?_)
        · replace h54 := b2i_0 h54
          refine g_iinc (v := nI (i + 1)) X [(6, _), (5, _), (0, _), (1, _), (2, _), (3, _)] dX2_guestsWith_103 0 rfl (nI_add (i) 1) (by decide) rfl rfl ?_
          refine g_goto X dX2_guestsWith_106 36 (by decide) ?_
          refine ih (mk - (i + 1)) (by omega) (i + 1) _ (by omega) rfl ?_
          rw [whI, hV]
          first
          | (simp [*]; done)
          | (rw [if_neg (by simp [*]), Int32.or_zero])
        · replace h54 := b2i_n0 h54
          refine g_aload_n X dX2_guestsWith_57 rfl 2 rfl rfl ?_
          refine gH_get_House_stamps X dX2_guestsWith_58 hinX20 hl35 rfl ?_
          refine gH_get_Stamps_page X dX2_guestsWith_61 hinX40 hl127 rfl ?_
          refine g_iload X dX2_guestsWith_64 0 rfl rfl ?_
          refine gS_ld_page X dX2_guestsWith_66 (by first | rfl | assumption) (by omega) rfl ?_
          refine g_iload_n X dX2_guestsWith_67 rfl 3 rfl rfl ?_
          refine g_icmp_ne X dX2_guestsWith_68 103 (by decide) rfl (fun h68 => ?_) (fun h68 => ?_)
          · refine g_iinc (v := nI (i + 1)) X [(6, _), (5, _), (0, _), (1, _), (2, _), (3, _)] dX2_guestsWith_103 0 rfl (nI_add (i) 1) (by decide) rfl rfl ?_
            refine g_goto X dX2_guestsWith_106 36 (by decide) ?_
            refine ih (mk - (i + 1)) (by omega) (i + 1) _ (by omega) rfl ?_
            rw [whI, hV]
            first
            | (simp [*]; done)
            | (rw [if_neg (by simp [*]), Int32.or_zero])
          · refine g_aload_n X dX2_guestsWith_71 rfl 2 rfl rfl ?_
            refine gH_get_House_stamps X dX2_guestsWith_72 hinX20 hl35 rfl ?_
            refine gH_get_Stamps_rights X dX2_guestsWith_75 hinX40 hl121 rfl ?_
            refine g_iload X dX2_guestsWith_78 0 rfl rfl ?_
            refine gS_ld_rights X dX2_guestsWith_80 (by first | rfl | assumption) (by omega) rfl ?_
            refine g_iload_n X dX2_guestsWith_81 rfl 4 rfl rfl ?_
            refine g_iand X dX2_guestsWith_82 rfl ?_
            refine g_if_eq X dX2_guestsWith_83 103 (by decide) rfl (fun h83 => ?_) (fun h83 => ?_)
            · refine g_iinc (v := nI (i + 1)) X [(6, _), (5, _), (0, _), (1, _), (2, _), (3, _)] dX2_guestsWith_103 0 rfl (nI_add (i) 1) (by decide) rfl rfl ?_
              refine g_goto X dX2_guestsWith_106 36 (by decide) ?_
              refine ih (mk - (i + 1)) (by omega) (i + 1) _ (by omega) rfl ?_
              rw [whI, hV]
              first
              | (simp [*]; done)
              | (rw [if_neg (by simp [*]), Int32.or_zero])
            · refine g_iload X dX2_guestsWith_86 1 rfl rfl ?_
              refine g_iconst (v := (1 : Int32)) X dX2_guestsWith_88 (by decide) rfl ?_
              refine g_aload_n X dX2_guestsWith_89 rfl 2 rfl rfl ?_
              refine gH_get_House_stamps X dX2_guestsWith_90 hinX20 hl35 rfl ?_
              refine gH_get_Stamps_holder X dX2_guestsWith_93 hinX40 hl124 rfl ?_
              refine g_iload X dX2_guestsWith_96 0 rfl rfl ?_
              refine gS_ld_holder X dX2_guestsWith_98 (by first | rfl | assumption) (by omega) rfl ?_
              refine g_ishl X dX2_guestsWith_99 rfl ?_
              refine g_ior X dX2_guestsWith_100 rfl ?_
              refine g_istore X [(5, _), (6, _), (0, _), (1, _), (2, _), (3, _)] dX2_guestsWith_101 (by decide) rfl rfl ?_
              refine g_iinc (v := nI (i + 1)) X [(6, _), (5, _), (0, _), (1, _), (2, _), (3, _)] dX2_guestsWith_103 1 rfl (nI_add (i) 1) (by decide) rfl rfl ?_
              refine g_goto X dX2_guestsWith_106 36 (by decide) ?_
              refine ih (mk - (i + 1)) (by omega) (i + 1) _ (by omega) rfl ?_
              rw [whI, hV]
              first
              | (simp [*]; done)
              | (rw [if_neg (by simp [*]), Int32.or_zero])
    refine L36 mk 0 _ (by omega) rfl ?_
    show _ = whO f pq
    unfold whO
    first
    | rw [if_neg (by rw [eg]; exact nI_pos (by omega))]
    | rw [if_pos (by rw [e6]; exact neg6)]
  · replace h16 := b2i_n0 h16
    obtain ⟨og, hog, eg⟩ : ∃ g : Nat, g < 6 ∧ f (4 + pq) = nI g := (how pq hp12).resolve_left (fun z => by rw [z, rng_6] at h16; exact absurd h16 (by decide))
    refine g_iconst (v := (1 : Int32)) X dX2_guestsWith_19 (by decide) rfl ?_
    refine g_aload_n X dX2_guestsWith_20 rfl 0 rfl rfl ?_
    refine gH_get_House_owners X dX2_guestsWith_21 hinX20 hl9 rfl ?_
    refine g_iload_n X dX2_guestsWith_24 rfl 1 rfl rfl ?_
    refine gS_ld_owners X dX2_guestsWith_25 (by first | rfl | assumption) (by omega) rfl ?_
    refine g_ishl X dX2_guestsWith_26 rfl ?_
    refine g_goto X dX2_guestsWith_27 31 (by decide) ?_
    refine g_istore X [(5, _), (0, _), (1, _), (2, _), (3, _)] dX2_guestsWith_31 (by decide) rfl rfl ?_
    refine g_iconst (v := (0 : Int32)) X dX2_guestsWith_33 (by decide) rfl ?_
    refine g_istore X [(6, _), (5, _), (0, _), (1, _), (2, _), (3, _)] dX2_guestsWith_34 (by decide) rfl rfl ?_
    have L36 : ∀ (n i : Nat) (x : Int32) (hi : i ≤ mk) (hn : mk - i = n) (hV : x = whI f G pq rt i), GG p l e (wRoom 1 22 0 0) s m ([.ref (a 0), .int (nI pq), .int rt, .long (lN (mskN G mk))] : List Value).toArray below meth c D A 7 true 0 0 (MQ below (roQ (fun v => v = some (.int (whI f G pq rt mk)))) ([.ref (a 0), .int (nI pq), .int rt, .long (lN (mskN G mk))] : List Value).toArray s 0 0 (fun _ => False)) (wHW D a f na w) 36 [(6, .int (nI i)), (5, .int x), (0, .ref (a 0)), (1, .int (nI pq)), (2, .int rt), (3, .long (lN (mskN G mk)))] [] := by
      intro n
      induction n using Nat.strongRecOn with
      | _ n ih =>
      intro i x hi hn hV
      refine g_iload X dX2_guestsWith_36 0 rfl rfl ?_
      refine g_aload_n X dX2_guestsWith_38 rfl 2 rfl rfl ?_
      refine gH_get_House_stamps X dX2_guestsWith_39 hinX20 hl35 rfl ?_
      refine gH_get_Stamps_made X dX2_guestsWith_42 hinX40 hl216 rfl ?_
      refine g_topi (show _ = nI (mk) from hmk) ?_
      refine g_icmp_ge X dX2_guestsWith_45 109 (by decide) rfl (fun h45 => ?_) (fun h45 => ?_)
      · have i45 := nj_le (a := mk) (b := i) (by omega) (by omega) h45
        have hii : i = mk := by omega
        subst hii
        subst hV
        refine g_iload X dX2_guestsWith_109 1 rfl rfl ?_
        refine g_retR X hr (by first | rfl | exact b2i_nar _) dX2_guestsWith_111 ?_
        rfl
      · have i45 := nj_nle (a := mk) (b := i) (by omega) (by omega) h45
        refine g_lload_n X dX2_guestsWith_48 rfl 5 rfl rfl ?_
        refine g_iload X dX2_guestsWith_49 0 rfl rfl ?_
        refine g_callSNR (n := 2) (As := [_, _]) (rest := []) X (c_X6_isIn l D (mskN G mk) i (msk64 (by omega)) (by omega)) gX2_guestsWith_X6_isIn_n117 (List.mem_of_getElem? (i := 8) rfl) (by decide +kernel) (List.mem_of_getElem? (i := 12) rfl) rfl (by decide +kernel) ⟨Nat.le_of_ble_eq_true rfl, Nat.le_of_ble_eq_true rfl⟩ [] rfl rfl rfl rfl (Nat.le_of_ble_eq_true rfl) dX2_guestsWith_51 ⟨Nat.le_of_ble_eq_true rfl, Nat.le_of_ble_eq_true rfl⟩ rfl (fun v hv => ?_)
        obtain rfl := hv
        refine g_st (st' := [_]) rfl ?_
        have hT : (mskN G mk).testBit i = G i := by rw [mskN_bit, decide_eq_true i45, Bool.true_and]
        refine g_topi (y := b2i (G i)) (congrArg b2i hT) ?_
        refine g_if_eq X dX2_guestsWith_54 103 (by decide) rfl (fun h54 => ?_) (fun h54 => ?_)
        · replace h54 := b2i_0 h54
          refine g_iinc (v := nI (i + 1)) X [(6, _), (5, _), (0, _), (1, _), (2, _), (3, _)] dX2_guestsWith_103 0 rfl (nI_add (i) 1) (by decide) rfl rfl ?_
          refine g_goto X dX2_guestsWith_106 36 (by decide) ?_
          refine ih (mk - (i + 1)) (by omega) (i + 1) _ (by omega) rfl ?_
          rw [whI, hV]
          first
          | (simp [*]; done)
          | (rw [if_neg (by simp [*]), Int32.or_zero])
        · replace h54 := b2i_n0 h54
          refine g_aload_n X dX2_guestsWith_57 rfl 2 rfl rfl ?_
          refine gH_get_House_stamps X dX2_guestsWith_58 hinX20 hl35 rfl ?_
          refine gH_get_Stamps_page X dX2_guestsWith_61 hinX40 hl127 rfl ?_
          refine g_iload X dX2_guestsWith_64 0 rfl rfl ?_
          refine gS_ld_page X dX2_guestsWith_66 (by first | rfl | assumption) (by omega) rfl ?_
          refine g_iload_n X dX2_guestsWith_67 rfl 3 rfl rfl ?_
          refine g_icmp_ne X dX2_guestsWith_68 103 (by decide) rfl (fun h68 => ?_) (fun h68 => ?_)
          · refine g_iinc (v := nI (i + 1)) X [(6, _), (5, _), (0, _), (1, _), (2, _), (3, _)] dX2_guestsWith_103 0 rfl (nI_add (i) 1) (by decide) rfl rfl ?_
            refine g_goto X dX2_guestsWith_106 36 (by decide) ?_
            refine ih (mk - (i + 1)) (by omega) (i + 1) _ (by omega) rfl ?_
            rw [whI, hV]
            first
            | (simp [*]; done)
            | (rw [if_neg (by simp [*]), Int32.or_zero])
          · refine g_aload_n X dX2_guestsWith_71 rfl 2 rfl rfl ?_
            refine gH_get_House_stamps X dX2_guestsWith_72 hinX20 hl35 rfl ?_
            refine gH_get_Stamps_rights X dX2_guestsWith_75 hinX40 hl121 rfl ?_
            refine g_iload X dX2_guestsWith_78 0 rfl rfl ?_
            refine gS_ld_rights X dX2_guestsWith_80 (by first | rfl | assumption) (by omega) rfl ?_
            refine g_iload_n X dX2_guestsWith_81 rfl 4 rfl rfl ?_
            refine g_iand X dX2_guestsWith_82 rfl ?_
            refine g_if_eq X dX2_guestsWith_83 103 (by decide) rfl (fun h83 => ?_) (fun h83 => ?_)
            · refine g_iinc (v := nI (i + 1)) X [(6, _), (5, _), (0, _), (1, _), (2, _), (3, _)] dX2_guestsWith_103 0 rfl (nI_add (i) 1) (by decide) rfl rfl ?_
              refine g_goto X dX2_guestsWith_106 36 (by decide) ?_
              refine ih (mk - (i + 1)) (by omega) (i + 1) _ (by omega) rfl ?_
              rw [whI, hV]
              first
              | (simp [*]; done)
              | (rw [if_neg (by simp [*]), Int32.or_zero])
            · refine g_iload X dX2_guestsWith_86 1 rfl rfl ?_
              refine g_iconst (v := (1 : Int32)) X dX2_guestsWith_88 (by decide) rfl ?_
              refine g_aload_n X dX2_guestsWith_89 rfl 2 rfl rfl ?_
              refine gH_get_House_stamps X dX2_guestsWith_90 hinX20 hl35 rfl ?_
              refine gH_get_Stamps_holder X dX2_guestsWith_93 hinX40 hl124 rfl ?_
              refine g_iload X dX2_guestsWith_96 0 rfl rfl ?_
              refine gS_ld_holder X dX2_guestsWith_98 (by first | rfl | assumption) (by omega) rfl ?_
              refine g_ishl X dX2_guestsWith_99 rfl ?_
              refine g_ior X dX2_guestsWith_100 rfl ?_
              refine g_istore X [(5, _), (6, _), (0, _), (1, _), (2, _), (3, _)] dX2_guestsWith_101 (by decide) rfl rfl ?_
              refine g_iinc (v := nI (i + 1)) X [(6, _), (5, _), (0, _), (1, _), (2, _), (3, _)] dX2_guestsWith_103 1 rfl (nI_add (i) 1) (by decide) rfl rfl ?_
              refine g_goto X dX2_guestsWith_106 36 (by decide) ?_
              refine ih (mk - (i + 1)) (by omega) (i + 1) _ (by omega) rfl ?_
              rw [whI, hV]
              first
              | (simp [*]; done)
              | (rw [if_neg (by simp [*]), Int32.or_zero])
    refine L36 mk 0 _ (by omega) rfl ?_
    show _ = whO f pq
    unfold whO
    first
    | rw [if_neg (by rw [eg]; exact nI_pos (by omega))]
    | rw [if_pos (by rw [e6]; exact neg6)]

set_option maxHeartbeats 4000000 in
set_option maxRecDepth 100000 in
theorem c_X2_hiddenWithout (l : Launch) (D : DT) (a : Nat → Nat) (f : Nat → Int32) (na : Nat → Nat → Int32) (w : Nat → Int32) (mk : Nat) (hmk : f 76 = nI mk) (h40 : mk ≤ 40) (hst : ∀ s, s < mk → stOK f s) (how : ∀ p, p < 12 → f (4 + p) = -6 ∨ ∃ g : Nat, g < 6 ∧ f (4 + p) = nI g) (q : Nat) (hq : q < mk) : MR l yX2_hiddenWithout wsX2_hiddenWithout 3 72 D [.ref (a 0), .int (nI q), .long (lN (mskN (gd f) mk))] (wHW D a f na w) (fun v => v = some (.int (hidM f q mk))) := by
  obtain ⟨⟨pg, hpg, epg⟩, -, -, -, -, -, -⟩ := id (hst q hq)
  have hcp : (ofM f q 0).toNatClampNeg = pg := by rw [epg]; exact nI_clamp (by omega)
  refine MR.of (cc := cX2_hiddenWithout) (maxL := 5) (ret := (some .int)) (lv := [(0, .ref (a 0)), (1, .int (nI q)), (2, .long (lN (mskN (gd f) mk)))]) (by decide +kernel) rfl (Nat.le_of_ble_eq_true rfl) rfl ?_
  intro p e s m below meth c A X hr hmn
  have hinX20 : ∀ w ∈ wsX20, w ∈ wsX2_hiddenWithout := fun w h => List.mem_cons_of_mem _ (List.mem_append_left _ (List.mem_append_right _ h))
  have hinX40 : ∀ w ∈ wsX40, w ∈ wsX2_hiddenWithout := fun w h => List.mem_cons_of_mem _ (List.mem_append_right _ h)
  have hl35 := List.mem_of_getElem? (l := wsX2_hiddenWithout) (i := 1) rfl
  have hl127 := List.mem_of_getElem? (l := wsX2_hiddenWithout) (i := 2) rfl
  refine g_aload_n X dX2_hiddenWithout_0 rfl 0 rfl rfl ?_
  refine gH_get_House_stamps X dX2_hiddenWithout_1 hinX20 hl35 rfl ?_
  refine gH_get_Stamps_page X dX2_hiddenWithout_4 hinX40 hl127 rfl ?_
  refine g_iload_n X dX2_hiddenWithout_7 rfl 1 rfl rfl ?_
  refine gS_ld_page X dX2_hiddenWithout_8 (by first | rfl | assumption) (by omega) rfl ?_
  refine g_topi epg ?_
  refine g_istore X [(4, _), (0, _), (1, _), (2, _)] dX2_hiddenWithout_9 (by decide) rfl rfl ?_
  refine g_aload_n X dX2_hiddenWithout_11 rfl 1 rfl rfl ?_
  refine g_iload X dX2_hiddenWithout_12 0 rfl rfl ?_
  refine g_iconst (v := (1 : Int32)) X dX2_hiddenWithout_14 (by decide) rfl ?_
  refine g_lload_n X dX2_hiddenWithout_15 rfl 3 rfl rfl ?_
  refine g_callVRsq (n := 3) (As := [_, _, _]) (rest := []) X (c_X2_guestsWith l D _ _ _ _ mk hmk h40 hst how pg hpg 1 (gd f)) gX2_hiddenWithout_X2_guestsWith rfl (by decide +kernel) ⟨Nat.le_of_ble_eq_true rfl, Nat.le_of_ble_eq_true rfl⟩ 0 rfl rfl  rfl rfl (Nat.le_of_ble_eq_true rfl) dX2_hiddenWithout_16 ⟨Nat.le_of_ble_eq_true rfl, Nat.le_of_ble_eq_true rfl⟩ rfl (fun v hv => ?_)
  obtain rfl := hv
  refine g_st (st' := [_]) rfl ?_
  refine g_aload_n X dX2_hiddenWithout_19 rfl 1 rfl rfl ?_
  refine g_iload X dX2_hiddenWithout_20 0 rfl rfl ?_
  refine g_iconst (v := (1 : Int32)) X dX2_hiddenWithout_22 (by decide) rfl ?_
  refine g_aload_n X dX2_hiddenWithout_23 rfl 1 rfl rfl ?_
  refine g_iload_n X dX2_hiddenWithout_24 rfl 2 rfl rfl ?_
  refine g_callVRsq (n := 1) (As := [_]) (rest := [_, _, _, _]) X (c_X2_goodStamps l D _ _ _ _ mk hmk h40 hst how _ (Or.inr ⟨q, hq, rfl⟩)) gX2_hiddenWithout_X2_goodStamps rfl (by decide +kernel) ⟨Nat.le_of_ble_eq_true rfl, Nat.le_of_ble_eq_true rfl⟩ 0 rfl rfl  rfl rfl (Nat.le_of_ble_eq_true rfl) dX2_hiddenWithout_25 ⟨Nat.le_of_ble_eq_true rfl, Nat.le_of_ble_eq_true rfl⟩ rfl (fun v hv => ?_)
  obtain rfl := hv
  refine g_st (st' := [_, _, _, _, _]) rfl ?_
  refine g_callVRsq (n := 3) (As := [_, _, _]) (rest := [_]) X (c_X2_guestsWith l D _ _ _ _ mk hmk h40 hst how pg hpg 1 (gd (fW f (nI q)))) gX2_hiddenWithout_X2_guestsWith rfl (by decide +kernel) ⟨Nat.le_of_ble_eq_true rfl, Nat.le_of_ble_eq_true rfl⟩ 0 rfl rfl  rfl rfl (Nat.le_of_ble_eq_true rfl) dX2_hiddenWithout_28 ⟨Nat.le_of_ble_eq_true rfl, Nat.le_of_ble_eq_true rfl⟩ rfl (fun v hv => ?_)
  obtain rfl := hv
  refine g_st (st' := [_, _]) rfl ?_
  refine g_iconst (v := ((-1) : Int32)) X dX2_hiddenWithout_31 (by decide) rfl ?_
  refine g_ixor X dX2_hiddenWithout_32 rfl ?_
  refine g_iand X dX2_hiddenWithout_33 rfl ?_
  refine g_retR X hr (by first | rfl | exact b2i_nar _) dX2_hiddenWithout_34 ?_
  refine congrArg (fun x => some (Value.int x)) ?_
  unfold hidM
  rw [hcp, ← fW_q f (by omega), whI_c (f := f) (g := fW f (nI q)) (fun s w hw => fW_of (Or.inr ⟨q, hq, rfl⟩) h40 hw) (fW_lo (Or.inr ⟨q, hq, rfl⟩) h40 (by omega))]

set_option maxHeartbeats 4000000 in
set_option maxRecDepth 100000 in
theorem c_X2_longestChain (l : Launch) (D : DT) (a : Nat → Nat) (f : Nat → Int32) (na : Nat → Nat → Int32) (w : Nat → Int32) (mk : Nat) (hmk : f 76 = nI mk) (h40 : mk ≤ 40) (hst : ∀ s, s < mk → stOK f s) (how : ∀ p, p < 12 → f (4 + p) = -6 ∨ ∃ g : Nat, g < 6 ∧ f (4 + p) = nI g) : MR l yX2_longestChain wsX2_longestChain 3 72 D [.ref (a 0)] (wHW D a f na w) (fun v => v = some (.int (lgI f mk))) := by
  refine MR.of (cc := cX2_longestChain) (maxL := 6) (ret := (some .int)) (lv := [(0, .ref (a 0))]) (by decide +kernel) rfl (Nat.le_of_ble_eq_true rfl) rfl ?_
  intro p e s m below meth c A X hr hmn
  have hinX20 : ∀ w ∈ wsX20, w ∈ wsX2_longestChain := fun w h => List.mem_cons_of_mem _ (List.mem_append_left _ (List.mem_append_right _ h))
  have hinX40 : ∀ w ∈ wsX40, w ∈ wsX2_longestChain := fun w h => List.mem_cons_of_mem _ (List.mem_append_right _ h)
  have hl35 := List.mem_of_getElem? (l := wsX2_longestChain) (i := 1) rfl
  have hl216 := List.mem_of_getElem? (l := wsX2_longestChain) (i := 2) rfl
  refine g_aload_n X dX2_longestChain_0 rfl 0 rfl rfl ?_
  refine g_bipush (v := ((-6) : Int32)) X dX2_longestChain_1 (by decide) rfl ?_
  refine g_callVRsq (n := 1) (As := [_]) (rest := []) X (c_X2_goodStamps l D _ _ _ _ mk hmk h40 hst how _ (Or.inl rfl)) gX2_longestChain_X2_goodStamps rfl (by decide +kernel) ⟨Nat.le_of_ble_eq_true rfl, Nat.le_of_ble_eq_true rfl⟩ 0 rfl rfl  rfl rfl (Nat.le_of_ble_eq_true rfl) dX2_longestChain_3 ⟨Nat.le_of_ble_eq_true rfl, Nat.le_of_ble_eq_true rfl⟩ rfl (fun v hv => ?_)
  obtain rfl := hv
  refine g_st (st' := [_]) rfl ?_
  rw [fW_6]
  refine g_lstore_n X [(1, _), (0, _)] dX2_longestChain_6 rfl (by decide) rfl rfl ?_
  refine g_bipush (v := ((-6) : Int32)) X dX2_longestChain_7 (by decide) rfl ?_
  refine g_istore_n X [(3, _), (1, _), (0, _)] dX2_longestChain_9 rfl (by decide) rfl rfl ?_
  refine g_iconst (v := (0 : Int32)) X dX2_longestChain_10 (by decide) rfl ?_
  refine g_istore X [(4, _), (3, _), (1, _), (0, _)] dX2_longestChain_11 (by decide) rfl rfl ?_
  refine g_iconst (v := (0 : Int32)) X dX2_longestChain_13 (by decide) rfl ?_
  refine g_istore X [(5, _), (4, _), (3, _), (1, _), (0, _)] dX2_longestChain_14 (by decide) rfl rfl ?_
  have L16 : ∀ (n i : Nat) (b : Int32) (k : Nat) (hi : i ≤ mk) (hn : mk - i = n) (hb : b = lgI f i) (hk : k = lgL f i), GG p l e (wRoom 3 72 0 0) s m ([.ref (a 0)] : List Value).toArray below meth c D A 6 true 0 0 (MQ below (roQ (fun v => v = some (.int (lgI f mk)))) ([.ref (a 0)] : List Value).toArray s 0 0 (fun _ => False)) (wHW D a f na w) 16 [(5, .int (nI i)), (4, .int (nI k)), (3, .int b), (1, .long (lN (mskN (gd f) mk))), (0, .ref (a 0))] [] := by
    intro n
    induction n using Nat.strongRecOn with
    | _ n ih =>
    intro i b k hi hn hb hk
    have hk41 : k ≤ 41 := by rw [hk]; exact lgL_le f i
    have hc41 := chN_le f (nI i)
    refine g_iload X dX2_longestChain_16 0 rfl rfl ?_
    refine g_aload_n X dX2_longestChain_18 rfl 4 rfl rfl ?_
    refine gH_get_House_stamps X dX2_longestChain_19 hinX20 hl35 rfl ?_
    refine gH_get_Stamps_made X dX2_longestChain_22 hinX40 hl216 rfl ?_
    refine g_topi (show _ = nI (mk) from hmk) ?_
    refine g_icmp_ge X dX2_longestChain_25 71 (by decide) rfl (fun h25 => ?_) (fun h25 => ?_)
    · have i25 := nj_le (a := mk) (b := i) (by omega) (by omega) h25
      have hii : i = mk := by omega
      subst hii
      subst hb
      refine g_iload_n X dX2_longestChain_71 rfl 2 rfl rfl ?_
      refine g_retR X hr (by first | rfl | exact b2i_nar _) dX2_longestChain_72 ?_
      rfl
    · have i25 := nj_nle (a := mk) (b := i) (by omega) (by omega) h25
      refine g_lload_n X dX2_longestChain_28 rfl 3 rfl rfl ?_
      refine g_iload X dX2_longestChain_29 0 rfl rfl ?_
      refine g_callSNR (n := 2) (As := [_, _]) (rest := []) X (c_X6_isIn l D (mskN (gd f) mk) i (msk64 (by omega)) (by omega)) gX2_longestChain_X6_isIn_n117 (List.mem_of_getElem? (i := 12) rfl) (by decide +kernel) (List.mem_of_getElem? (i := 11) rfl) rfl (by decide +kernel) ⟨Nat.le_of_ble_eq_true rfl, Nat.le_of_ble_eq_true rfl⟩ [] rfl rfl rfl rfl (Nat.le_of_ble_eq_true rfl) dX2_longestChain_31 ⟨Nat.le_of_ble_eq_true rfl, Nat.le_of_ble_eq_true rfl⟩ rfl (fun v hv => ?_)
      obtain rfl := hv
      refine g_st (st' := [_]) rfl ?_
      have hT : (mskN (gd f) mk).testBit i = gd f i := by rw [mskN_bit, decide_eq_true i25, Bool.true_and]
      refine g_topi (y := b2i (gd f i)) (congrArg b2i hT) ?_
      refine g_if_eq X dX2_longestChain_34 65 (by decide) rfl (fun h34 => ?_) (fun h34 => ?_)
      · replace h34 := b2i_0 h34
        refine g_iinc (v := nI (i + 1)) X [(5, _), (4, _), (3, _), (1, _), (0, _)] dX2_longestChain_65 0 rfl (nI_add (i) 1) (by decide) rfl rfl ?_
        refine g_goto X dX2_longestChain_68 16 (by decide) ?_
        first
        | exact ih (mk - (i + 1)) (by omega) (i + 1) _ _ (by omega) rfl (lg_t (by omega) h34 (by omega)).1.symm (lg_t (by omega) h34 (by omega)).2.symm
        | exact ih (mk - (i + 1)) (by omega) (i + 1) _ _ (by omega) rfl (hb.trans (lg_f (by omega) (Or.inr (by omega))).1.symm) (hk.trans (lg_f (by omega) (Or.inr (by omega))).2.symm)
        | exact ih (mk - (i + 1)) (by omega) (i + 1) _ _ (by omega) rfl (hb.trans (lg_f (by omega) (Or.inl h34)).1.symm) (hk.trans (lg_f (by omega) (Or.inl h34)).2.symm)
      · replace h34 := b2i_n0 h34
        refine g_aload_n X dX2_longestChain_37 rfl 4 rfl rfl ?_
        refine gH_get_House_stamps X dX2_longestChain_38 hinX20 hl35 rfl ?_
        refine g_iload X dX2_longestChain_41 0 rfl rfl ?_
        refine g_callVRsq (n := 1) (As := [_]) (rest := []) X (c_X4_chainLength l D _ _ _ _ mk hmk h40 hst i i25) gX2_longestChain_X4_chainLength rfl (by decide +kernel) ⟨Nat.le_of_ble_eq_true rfl, Nat.le_of_ble_eq_true rfl⟩ 5 rfl rfl  rfl rfl (Nat.le_of_ble_eq_true rfl) dX2_longestChain_43 ⟨Nat.le_of_ble_eq_true rfl, Nat.le_of_ble_eq_true rfl⟩ rfl (fun v hv => ?_)
        obtain rfl := hv
        refine g_st (st' := [_]) rfl ?_
        refine g_iload X dX2_longestChain_46 1 rfl rfl ?_
        refine g_icmp_le X dX2_longestChain_48 65 (by decide) rfl (fun h48 => ?_) (fun h48 => ?_)
        · have i48 := nj_le (a := (chN f (nI i))) (b := k) (by omega) (by omega) h48
          refine g_iinc (v := nI (i + 1)) X [(5, _), (4, _), (3, _), (1, _), (0, _)] dX2_longestChain_65 0 rfl (nI_add (i) 1) (by decide) rfl rfl ?_
          refine g_goto X dX2_longestChain_68 16 (by decide) ?_
          first
          | exact ih (mk - (i + 1)) (by omega) (i + 1) _ _ (by omega) rfl (lg_t (by omega) h34 (by omega)).1.symm (lg_t (by omega) h34 (by omega)).2.symm
          | exact ih (mk - (i + 1)) (by omega) (i + 1) _ _ (by omega) rfl (hb.trans (lg_f (by omega) (Or.inr (by omega))).1.symm) (hk.trans (lg_f (by omega) (Or.inr (by omega))).2.symm)
          | exact ih (mk - (i + 1)) (by omega) (i + 1) _ _ (by omega) rfl (hb.trans (lg_f (by omega) (Or.inl h34)).1.symm) (hk.trans (lg_f (by omega) (Or.inl h34)).2.symm)
        · have i48 := nj_nle (a := (chN f (nI i))) (b := k) (by omega) (by omega) h48
          refine g_iload X dX2_longestChain_51 0 rfl rfl ?_
          refine g_istore_n X [(3, _), (5, _), (4, _), (1, _), (0, _)] dX2_longestChain_53 rfl (by decide) rfl rfl ?_
          refine g_aload_n X dX2_longestChain_54 rfl 4 rfl rfl ?_
          refine gH_get_House_stamps X dX2_longestChain_55 hinX20 hl35 rfl ?_
          refine g_iload X dX2_longestChain_58 1 rfl rfl ?_
          refine g_callVRsq (n := 1) (As := [_]) (rest := []) X (c_X4_chainLength l D _ _ _ _ mk hmk h40 hst i i25) gX2_longestChain_X4_chainLength rfl (by decide +kernel) ⟨Nat.le_of_ble_eq_true rfl, Nat.le_of_ble_eq_true rfl⟩ 5 rfl rfl  rfl rfl (Nat.le_of_ble_eq_true rfl) dX2_longestChain_60 ⟨Nat.le_of_ble_eq_true rfl, Nat.le_of_ble_eq_true rfl⟩ rfl (fun v hv => ?_)
          obtain rfl := hv
          refine g_st (st' := [_]) rfl ?_
          refine g_istore X [(4, _), (3, _), (5, _), (1, _), (0, _)] dX2_longestChain_63 (by decide) rfl rfl ?_
          refine g_iinc (v := nI (i + 1)) X [(5, _), (4, _), (3, _), (1, _), (0, _)] dX2_longestChain_65 2 rfl (nI_add (i) 1) (by decide) rfl rfl ?_
          refine g_goto X dX2_longestChain_68 16 (by decide) ?_
          first
          | exact ih (mk - (i + 1)) (by omega) (i + 1) _ _ (by omega) rfl (lg_t (by omega) h34 (by omega)).1.symm (lg_t (by omega) h34 (by omega)).2.symm
          | exact ih (mk - (i + 1)) (by omega) (i + 1) _ _ (by omega) rfl (hb.trans (lg_f (by omega) (Or.inr (by omega))).1.symm) (hk.trans (lg_f (by omega) (Or.inr (by omega))).2.symm)
          | exact ih (mk - (i + 1)) (by omega) (i + 1) _ _ (by omega) rfl (hb.trans (lg_f (by omega) (Or.inl h34)).1.symm) (hk.trans (lg_f (by omega) (Or.inl h34)).2.symm)
  exact L16 mk 0 _ 0 (by omega) rfl rfl rfl

set_option maxHeartbeats 4000000 in
set_option maxRecDepth 100000 in
theorem c_X2_needlessFor (l : Launch) (D : DT) (a : Nat → Nat) (f : Nat → Int32) (na : Nat → Nat → Int32) (w : Nat → Int32) (mk : Nat) (hmk : f 76 = nI mk) (h40 : mk ≤ 40) (hst : ∀ s, s < mk → stOK f s) (how : ∀ p, p < 12 → f (4 + p) = -6 ∨ ∃ g : Nat, g < 6 ∧ f (4 + p) = nI g) (pq : Nat) (hp12 : pq < 12) : MR l yX2_needlessFor wsX2_needlessFor 4 96 D [.ref (a 0), .int (nI pq)] (wHW D a f na w) (fun v => v = some (.long (lN (mskN (fun s => (gd f s && decide (ofM f s 0 = nI pq)) && decide (hidM f s mk = 0)) mk)))) := by
  refine MR.of (cc := cX2_needlessFor) (maxL := 9) (ret := (some .long)) (lv := [(0, .ref (a 0)), (1, .int (nI pq))]) (by decide +kernel) rfl (Nat.le_of_ble_eq_true rfl) rfl ?_
  intro p e s m below meth c A X hr hmn
  have hinX20 : ∀ w ∈ wsX20, w ∈ wsX2_needlessFor := fun w h => List.mem_cons_of_mem _ (List.mem_append_left _ (List.mem_append_right _ h))
  have hinX40 : ∀ w ∈ wsX40, w ∈ wsX2_needlessFor := fun w h => List.mem_cons_of_mem _ (List.mem_append_right _ h)
  have hl35 := List.mem_of_getElem? (l := wsX2_needlessFor) (i := 1) rfl
  have hl216 := List.mem_of_getElem? (l := wsX2_needlessFor) (i := 2) rfl
  refine g_aload_n X dX2_needlessFor_0 rfl 0 rfl rfl ?_
  refine g_bipush (v := ((-6) : Int32)) X dX2_needlessFor_1 (by decide) rfl ?_
  refine g_callVRsq (n := 1) (As := [_]) (rest := []) X (c_X2_goodStamps l D _ _ _ _ mk hmk h40 hst how _ (Or.inl rfl)) gX2_needlessFor_X2_goodStamps rfl (by decide +kernel) ⟨Nat.le_of_ble_eq_true rfl, Nat.le_of_ble_eq_true rfl⟩ 0 rfl rfl  rfl rfl (Nat.le_of_ble_eq_true rfl) dX2_needlessFor_3 ⟨Nat.le_of_ble_eq_true rfl, Nat.le_of_ble_eq_true rfl⟩ rfl (fun v hv => ?_)
  obtain rfl := hv
  refine g_st (st' := [_]) rfl ?_
  rw [fW_6]
  refine g_lstore_n X [(2, _), (0, _), (1, _)] dX2_needlessFor_6 rfl (by decide) rfl rfl ?_
  refine g_lload_n X dX2_needlessFor_7 rfl 0 rfl rfl ?_
  refine g_aload_n X dX2_needlessFor_8 rfl 1 rfl rfl ?_
  refine gH_get_House_stamps X dX2_needlessFor_9 hinX20 hl35 rfl ?_
  refine g_iload_n X dX2_needlessFor_12 rfl 2 rfl rfl ?_
  refine g_callVRsq (n := 1) (As := [_]) (rest := [_]) X (c_X4_ofOnePage l D _ _ _ _ mk hmk h40 _) gX2_needlessFor_X4_ofOnePage rfl (by decide +kernel) ⟨Nat.le_of_ble_eq_true rfl, Nat.le_of_ble_eq_true rfl⟩ 5 rfl rfl  rfl rfl (Nat.le_of_ble_eq_true rfl) dX2_needlessFor_13 ⟨Nat.le_of_ble_eq_true rfl, Nat.le_of_ble_eq_true rfl⟩ rfl (fun v hv => ?_)
  obtain rfl := hv
  refine g_st (st' := [_, _]) rfl ?_
  refine g_land X dX2_needlessFor_16 rfl ?_
  refine g_topl (msk_and (by omega)) ?_
  refine g_lstore X [(4, _), (2, _), (0, _), (1, _)] dX2_needlessFor_17 (by decide) rfl rfl ?_
  refine g_lconst (v := (0 : Int64)) X dX2_needlessFor_19 (by decide) rfl ?_
  refine g_lstore X [(6, _), (4, _), (2, _), (0, _), (1, _)] dX2_needlessFor_20 (by decide) rfl rfl ?_
  refine g_iconst (v := (0 : Int32)) X dX2_needlessFor_22 (by decide) rfl ?_
  refine g_istore X [(8, _), (6, _), (4, _), (2, _), (0, _), (1, _)] dX2_needlessFor_23 (by decide) rfl rfl ?_
  have L25 : ∀ (n i M : Nat) (hi : i ≤ mk) (hn : mk - i = n) (hM : M = mskN (fun s => (gd f s && decide (ofM f s 0 = nI pq)) && decide (hidM f s mk = 0)) i), GG p l e (wRoom 4 96 0 0) s m ([.ref (a 0), .int (nI pq)] : List Value).toArray below meth c D A 9 true 0 0 (MQ below (roQ (fun v => v = some (.long (lN (mskN (fun s => (gd f s && decide (ofM f s 0 = nI pq)) && decide (hidM f s mk = 0)) mk))))) ([.ref (a 0), .int (nI pq)] : List Value).toArray s 0 0 (fun _ => False)) (wHW D a f na w) 25 [(8, .int (nI i)), (6, .long (lN M)), (4, .long (lN (mskN (fun s => gd f s && decide (ofM f s 0 = nI pq)) mk))), (2, .long (lN (mskN (gd f) mk))), (0, .ref (a 0)), (1, .int (nI pq))] [] := by
    intro n
    induction n using Nat.strongRecOn with
    | _ n ih =>
    intro i M hi hn hM
    have hMl : M < 2 ^ 64 := by rw [hM]; exact msk64 (by omega)
    refine g_iload X dX2_needlessFor_25 0 rfl rfl ?_
    refine g_aload_n X dX2_needlessFor_27 rfl 4 rfl rfl ?_
    refine gH_get_House_stamps X dX2_needlessFor_28 hinX20 hl35 rfl ?_
    refine gH_get_Stamps_made X dX2_needlessFor_31 hinX40 hl216 rfl ?_
    refine g_topi (show _ = nI (mk) from hmk) ?_
    refine g_icmp_ge X dX2_needlessFor_34 72 (by decide) rfl (fun h34 => ?_) (fun h34 => ?_)
    · have i34 := nj_le (a := mk) (b := i) (by omega) (by omega) h34
      have hii : i = mk := by omega
      subst hii
      subst hM
      refine g_lload X dX2_needlessFor_72 1 rfl rfl ?_
      refine g_lretR X hr dX2_needlessFor_74 ?_
      rfl
    · have i34 := nj_nle (a := mk) (b := i) (by omega) (by omega) h34
      refine g_lload X dX2_needlessFor_37 2 rfl rfl ?_
      refine g_iload X dX2_needlessFor_39 0 rfl rfl ?_
      refine g_callSNR (n := 2) (As := [_, _]) (rest := []) X (c_X6_isIn l D (mskN (fun s => gd f s && decide (ofM f s 0 = nI pq)) mk) i (msk64 (by omega)) (by omega)) gX2_needlessFor_X6_isIn_n117 (List.mem_of_getElem? (i := 12) rfl) (by decide +kernel) (List.mem_of_getElem? (i := 11) rfl) rfl (by decide +kernel) ⟨Nat.le_of_ble_eq_true rfl, Nat.le_of_ble_eq_true rfl⟩ [] rfl rfl rfl rfl (Nat.le_of_ble_eq_true rfl) dX2_needlessFor_41 ⟨Nat.le_of_ble_eq_true rfl, Nat.le_of_ble_eq_true rfl⟩ rfl (fun v hv => ?_)
      obtain rfl := hv
      refine g_st (st' := [_]) rfl ?_
      have hT : (mskN (fun s => gd f s && decide (ofM f s 0 = nI pq)) mk).testBit i = (gd f i && decide (ofM f i 0 = nI pq)) := by rw [mskN_bit, decide_eq_true i34, Bool.true_and]
      refine g_topi (y := b2i (gd f i && decide (ofM f i 0 = nI pq))) (congrArg b2i hT) ?_
      refine g_if_eq X dX2_needlessFor_44 66 (by decide) rfl (fun h44 => ?_) (fun h44 => ?_)
      · replace h44 := b2i_0 h44
        refine g_iinc (v := nI (i + 1)) X [(8, _), (6, _), (4, _), (2, _), (0, _), (1, _)] dX2_needlessFor_66 0 rfl (nI_add (i) 1) (by decide) rfl rfl ?_
        refine g_goto X dX2_needlessFor_69 25 (by decide) ?_
        refine ih (mk - (i + 1)) (by omega) (i + 1) _ (by omega) rfl ?_
        rw [mskN, hM]
        simp [*]
      · replace h44 := b2i_n0 h44
        refine g_aload_n X dX2_needlessFor_47 rfl 4 rfl rfl ?_
        refine g_iload X dX2_needlessFor_48 0 rfl rfl ?_
        refine g_lload_n X dX2_needlessFor_50 rfl 3 rfl rfl ?_
        refine g_callVRsq (n := 2) (As := [_, _]) (rest := []) X (c_X2_hiddenWithout l D _ _ _ _ mk hmk h40 hst how i i34) gX2_needlessFor_X2_hiddenWithout rfl (by decide +kernel) ⟨Nat.le_of_ble_eq_true rfl, Nat.le_of_ble_eq_true rfl⟩ 0 rfl rfl  rfl rfl (Nat.le_of_ble_eq_true rfl) dX2_needlessFor_51 ⟨Nat.le_of_ble_eq_true rfl, Nat.le_of_ble_eq_true rfl⟩ rfl (fun v hv => ?_)
        obtain rfl := hv
        refine g_st (st' := [_]) rfl ?_
        refine g_if_ne X dX2_needlessFor_54 66 (by decide) rfl (fun h54 => ?_) (fun h54 => ?_)
        · refine g_iinc (v := nI (i + 1)) X [(8, _), (6, _), (4, _), (2, _), (0, _), (1, _)] dX2_needlessFor_66 0 rfl (nI_add (i) 1) (by decide) rfl rfl ?_
          refine g_goto X dX2_needlessFor_69 25 (by decide) ?_
          refine ih (mk - (i + 1)) (by omega) (i + 1) _ (by omega) rfl ?_
          rw [mskN, hM]
          simp [*]
        · refine g_lload X dX2_needlessFor_57 1 rfl rfl ?_
          refine g_lconst (v := (1 : Int64)) X dX2_needlessFor_59 (by decide) rfl ?_
          refine g_iload X dX2_needlessFor_60 0 rfl rfl ?_
          refine g_lshl X dX2_needlessFor_62 rfl rfl ?_
          refine g_lor X dX2_needlessFor_63 rfl ?_
          refine g_topl (lmsk hMl (by omega)) ?_
          refine g_lstore X [(6, _), (8, _), (4, _), (2, _), (0, _), (1, _)] dX2_needlessFor_64 (by decide) rfl rfl ?_
          refine g_iinc (v := nI (i + 1)) X [(8, _), (6, _), (4, _), (2, _), (0, _), (1, _)] dX2_needlessFor_66 1 rfl (nI_add (i) 1) (by decide) rfl rfl ?_
          refine g_goto X dX2_needlessFor_69 25 (by decide) ?_
          refine ih (mk - (i + 1)) (by omega) (i + 1) _ (by omega) rfl ?_
          rw [mskN, hM]
          simp [*]
  exact L25 mk 0 0 (by omega) rfl rfl
