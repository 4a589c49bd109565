set_option maxHeartbeats 4000000 in
set_option maxRecDepth 100000 in
theorem c_X3_readOrder_out (l : Launch) (D : DT) (a : Nat → Nat) (td vl : Nat → Int32) (L pt fl : Nat) (kd : Int32) (hL : L ≤ 80) (hpo : L ≤ pt) (hp1 : pt ≤ 200) : MW l yX3_readOrder wsX3_readOrder 5 115 0 0 D [.ref (a 20)] (wP D a td vl L pt fl kd) (fun v w2 => v = some (.int (b2i false)) ∧ w2 = (wP D a td vl L pt fl kd)) := by
  refine MW.of (cc := cX3_readOrder) (maxL := 3) (ret := (some .boolean)) (lv := [(0, .ref (a 20))]) (by decide +kernel) rfl (Nat.le_of_ble_eq_true rfl) rfl ?_
  intro p e s m below meth c A hAe hAg X hr hmn
  have hinX30 : ∀ w ∈ wsX30, w ∈ wsX3_readOrder := fun w h => List.mem_cons_of_mem _ (List.mem_append_right _ h)
  have hl40 := List.mem_of_getElem? (l := wsX3_readOrder) (i := 1) rfl
  have hl23 := List.mem_of_getElem? (l := wsX3_readOrder) (i := 2) rfl
  have hl9 := List.mem_of_getElem? (l := wsX3_readOrder) (i := 3) rfl
  have hl46 := List.mem_of_getElem? (l := wsX3_readOrder) (i := 4) rfl
  have hl59 := List.mem_of_getElem? (l := wsX3_readOrder) (i := 5) rfl
  refine g_aload_n X dX3_readOrder_0 rfl 0 rfl rfl ?_
  refine gP_get_at X dX3_readOrder_1 hinX30 hl40 rfl ?_
  refine g_aload_n X dX3_readOrder_4 rfl 0 rfl rfl ?_
  refine gP_get_length X dX3_readOrder_5 hinX30 hl23 rfl ?_
  refine g_icmp_lt X dX3_readOrder_8 13 (by decide) rfl (fun h8 => absurd (nj_lt (a := pt) (b := L) (by omega) (by omega) h8) (by omega)) (fun h8 => ?_)
  have i8 := nj_nlt (a := pt) (b := L) (by omega) (by omega) h8
  refine g_iconst (v := (0 : Int32)) X dX3_readOrder_11 (by decide) rfl ?_
  refine g_retW X hr (by first | rfl | exact b2i_nar _) dX3_readOrder_12 hAe ?_
  exact ⟨rfl, rfl⟩

set_option maxHeartbeats 4000000 in
set_option maxRecDepth 100000 in
theorem c_X2_follow (l : Launch) (D : DT) (a : Nat → Nat) (f : Nat → Int32) (na : Nat → Nat → Int32) (w td vl : Nat → Int32) (L pt fl : Nat) (kd : Int32) (kp : Nat) (fq fs : Nat → Option Nat) (tl : va_W) (mk n b : Nat) (hW : WF f mk n b) (hNR : NR f na n) (hkd : kd = 63 ∨ kd = 100 ∨ kd = 111 ∨ kd = 112 ∨ kd = 115 ∨ kd = 116) : MW l yX2_follow wsX2_follow 5 122 0 0 D [.ref (a 0), .ref (a 20), .ref (a 18)] (wB D a f na w td vl L pt fl kd kp fq fs tl) (fun v w2 => v = some (.int (crS f kd (vl 0) (vl 1) (vl 2) (vl 3)).1) ∧ ∃ (nb : Nat → Nat → Int32) (n' : Nat) (w' : Nat → Int32), NR (crS f kd (vl 0) (vl 1) (vl 2) (vl 3)).2 nb n' ∧ (crS f kd (vl 0) (vl 1) (vl 2) (vl 3)).2 90 = nI n' ∧ w2 = (wB D a (crS f kd (vl 0) (vl 1) (vl 2) (vl 3)).2 nb w' td vl L pt fl kd kp fq fs tl)) := by
  obtain ⟨hmk, h40, hn8, hb0, hb1, hb8, hnb, hst, hno, how, hdo, hs1, hs2, hs3, hZF⟩ := id hW
  have h8 : n ≤ 8 := by omega
  obtain ⟨eN1, eN2, eN3⟩ := hW.N
  refine MW.of (cc := cX2_follow) (maxL := 4) (ret := (some .int)) (lv := [(0, .ref (a 0)), (1, .ref (a 20)), (2, .ref (a 18))]) (by decide +kernel) rfl (Nat.le_of_ble_eq_true rfl) rfl ?_
  intro p e s m below meth c A hAe hAg X hr hmn
  have hinX30 : ∀ w ∈ wsX30, w ∈ wsX2_follow := fun w h => List.mem_cons_of_mem _ (List.mem_append_left _ (List.mem_append_left _ (List.mem_append_left _ (List.mem_append_left _ (List.mem_append_right _ h)))))
  have hinX20 : ∀ w ∈ wsX20, w ∈ wsX2_follow := fun w h => List.mem_cons_of_mem _ (List.mem_append_left _ (List.mem_append_left _ (List.mem_append_left _ (List.mem_append_right _ h))))
  have hinX40 : ∀ w ∈ wsX40, w ∈ wsX2_follow := fun w h => List.mem_cons_of_mem _ (List.mem_append_left _ (List.mem_append_left _ (List.mem_append_right _ h)))
  have hinX00 : ∀ w ∈ wsX00, w ∈ wsX2_follow := fun w h => List.mem_cons_of_mem _ (List.mem_append_left _ (List.mem_append_right _ h))
  have hinX50 : ∀ w ∈ wsX50, w ∈ wsX2_follow := fun w h => List.mem_cons_of_mem _ (List.mem_append_right _ h)
  have hl187 := List.mem_of_getElem? (l := wsX2_follow) (i := 1) rfl
  have hl192 := List.mem_of_getElem? (l := wsX2_follow) (i := 2) rfl
  refine g_aload_n X dX2_follow_0 rfl 1 rfl rfl ?_
  refine gB_get_Pad_values X dX2_follow_1 hinX30 hl187 rfl ?_
  refine g_astore_n X [(3, _), (0, _), (1, _), (2, _)] dX2_follow_4 rfl (by decide) rfl rfl ?_
  refine g_aload_n X dX2_follow_5 rfl 2 rfl rfl ?_
  refine gB_get_Pad_kind X dX2_follow_6 hinX30 hl192 rfl ?_
  rcases Classical.em (kd = (63 : Int32)) with ec9 | ne63
  · refine g_lookup X dX2_follow_9 (by decide) (off := 123) (by rw [ec9]; decide) 132 (by decide) ?_
    refine g_aload_n X dX2_follow_132 rfl 1 rfl rfl ?_
    refine g_aload_n X dX2_follow_133 rfl 0 rfl rfl ?_
    refine g_iconst (v := (0 : Int32)) X dX2_follow_134 (by decide) rfl ?_
    refine gB_ld_values X dX2_follow_135 (k := 0) rfl (by decide) rfl ?_
    refine g_aload_n X dX2_follow_136 rfl 0 rfl rfl ?_
    refine g_iconst (v := (1 : Int32)) X dX2_follow_137 (by decide) rfl ?_
    refine gB_ld_values X dX2_follow_138 (k := 1) rfl (by decide) rfl ?_
    refine g_aload_n X dX2_follow_139 rfl 0 rfl rfl ?_
    refine g_iconst (v := (2 : Int32)) X dX2_follow_140 (by decide) rfl ?_
    refine gB_ld_values X dX2_follow_141 (k := 2) rfl (by decide) rfl ?_
    refine g_aload_n X dX2_follow_142 rfl 3 rfl rfl ?_
    refine g_callVWq (n := 4) (As := [_, _, _, _]) (rest := []) X hAg rfl (c_X2_visit l D _ _ _ _ mk n b hW hNR (vl 0) (vl 1) (vl 2)) gX2_follow_X2_visit rfl (by decide +kernel) ⟨Nat.le_of_ble_eq_true rfl, Nat.le_of_ble_eq_true rfl⟩ 0 rfl rfl [0, 1, 2, 3, 4, 5, 6, 7, 8, 9, 10, 11, 12, 13, 14, 15, 16] rfl (by decide) rfl rfl (Nat.le_of_ble_eq_true rfl) dX2_follow_143 ⟨Nat.le_of_ble_eq_true rfl, Nat.le_of_ble_eq_true rfl⟩ rfl (fun v w hv => ?_)
    obtain ⟨rfl, nb, n', w', rfl, hN9, h909⟩ := hv
    refine ⟨rfl, ?_⟩
    refine g_ws wB_h ?_
    refine g_st (st' := [_]) rfl ?_
    refine g_retW X hr (by first | rfl | exact b2i_nar _) dX2_follow_146 hAe ?_
    have e : (crS f kd (vl 0) (vl 1) (vl 2) (vl 3)) = comeS f (vl 0) (vl 1) (vl 2) := by
      unfold crS
      rw [if_neg (by rw [ec9]; decide), if_neg (by rw [ec9]; decide), if_neg (by rw [ec9]; decide), if_neg (by rw [ec9]; decide), if_neg (by rw [ec9]; decide)]
    rw [e]
    exact ⟨rfl, nb, n', w', hN9, h909, rfl⟩
  · rcases Classical.em (kd = (100 : Int32)) with ec9 | ne100
    · refine g_lookup X dX2_follow_9 (by decide) (off := 109) (by rw [ec9]; decide) 118 (by decide) ?_
      refine g_aload_n X dX2_follow_118 rfl 1 rfl rfl ?_
      refine g_aload_n X dX2_follow_119 rfl 0 rfl rfl ?_
      refine g_iconst (v := (0 : Int32)) X dX2_follow_120 (by decide) rfl ?_
      refine gB_ld_values X dX2_follow_121 (k := 0) rfl (by decide) rfl ?_
      refine g_aload_n X dX2_follow_122 rfl 0 rfl rfl ?_
      refine g_iconst (v := (1 : Int32)) X dX2_follow_123 (by decide) rfl ?_
      refine gB_ld_values X dX2_follow_124 (k := 1) rfl (by decide) rfl ?_
      refine g_aload_n X dX2_follow_125 rfl 0 rfl rfl ?_
      refine g_iconst (v := (2 : Int32)) X dX2_follow_126 (by decide) rfl ?_
      refine gB_ld_values X dX2_follow_127 (k := 2) rfl (by decide) rfl ?_
      refine g_callVWq (n := 3) (As := [_, _, _]) (rest := []) X hAg rfl (c_X2_leadDoor l D _ _ _ _ mk n b hW hNR (vl 0) (vl 1) (vl 2)) gX2_follow_X2_leadDoor rfl (by decide +kernel) ⟨Nat.le_of_ble_eq_true rfl, Nat.le_of_ble_eq_true rfl⟩ 0 rfl rfl [0, 1, 2, 3, 4, 5, 6, 7, 8, 9, 10, 11, 12, 13, 14, 15, 16] rfl (by decide) rfl rfl (Nat.le_of_ble_eq_true rfl) dX2_follow_128 ⟨Nat.le_of_ble_eq_true rfl, Nat.le_of_ble_eq_true rfl⟩ rfl (fun v w hv => ?_)
      obtain ⟨rfl, nb, n', w', rfl, hN9, h909⟩ := hv
      refine ⟨rfl, ?_⟩
      refine g_ws wB_h ?_
      refine g_st (st' := [_]) rfl ?_
      refine g_retW X hr (by first | rfl | exact b2i_nar _) dX2_follow_131 hAe ?_
      have e : (crS f kd (vl 0) (vl 1) (vl 2) (vl 3)) = doorS f (vl 0) (vl 1) (vl 2) := by
        unfold crS
        rw [if_pos ec9]
      rw [e]
      exact ⟨rfl, nb, n', w', hN9, h909, rfl⟩
    · rcases Classical.em (kd = (111 : Int32)) with ec9 | ne111
      · refine g_lookup X dX2_follow_9 (by decide) (off := 59) (by rw [ec9]; decide) 68 (by decide) ?_
        refine g_aload_n X dX2_follow_68 rfl 1 rfl rfl ?_
        refine g_aload_n X dX2_follow_69 rfl 0 rfl rfl ?_
        refine g_iconst (v := (0 : Int32)) X dX2_follow_70 (by decide) rfl ?_
        refine gB_ld_values X dX2_follow_71 (k := 0) rfl (by decide) rfl ?_
        refine g_aload_n X dX2_follow_72 rfl 0 rfl rfl ?_
        refine g_iconst (v := (1 : Int32)) X dX2_follow_73 (by decide) rfl ?_
        refine gB_ld_values X dX2_follow_74 (k := 1) rfl (by decide) rfl ?_
        refine g_callVWq (n := 2) (As := [_, _]) (rest := []) X hAg rfl (c_X2_changeOwner l D _ _ _ _ mk n b hW hNR (vl 0) (vl 1)) gX2_follow_X2_changeOwner rfl (by decide +kernel) ⟨Nat.le_of_ble_eq_true rfl, Nat.le_of_ble_eq_true rfl⟩ 0 rfl rfl [0, 1, 2, 3, 4, 5, 6, 7, 8, 9, 10, 11, 12, 13, 14, 15, 16] rfl (by decide) rfl rfl (Nat.le_of_ble_eq_true rfl) dX2_follow_75 ⟨Nat.le_of_ble_eq_true rfl, Nat.le_of_ble_eq_true rfl⟩ rfl (fun v w hv => ?_)
        obtain ⟨rfl, nb, n', w', rfl, hN9, h909⟩ := hv
        refine ⟨rfl, ?_⟩
        refine g_ws wB_h ?_
        refine g_st (st' := [_]) rfl ?_
        refine g_retW X hr (by first | rfl | exact b2i_nar _) dX2_follow_78 hAe ?_
        have e : (crS f kd (vl 0) (vl 1) (vl 2) (vl 3)) = ownS f (vl 0) (vl 1) := by
          unfold crS
          rw [if_neg (by rw [ec9]; decide), if_pos ec9]
        rw [e]
        exact ⟨rfl, nb, n', w', hN9, h909, rfl⟩
      · rcases Classical.em (kd = (112 : Int32)) with ec9 | ne112
        · refine g_lookup X dX2_follow_9 (by decide) (off := 87) (by rw [ec9]; decide) 96 (by decide) ?_
          refine g_aload_n X dX2_follow_96 rfl 1 rfl rfl ?_
          refine g_aload_n X dX2_follow_97 rfl 0 rfl rfl ?_
          refine g_iconst (v := (0 : Int32)) X dX2_follow_98 (by decide) rfl ?_
          refine gB_ld_values X dX2_follow_99 (k := 0) rfl (by decide) rfl ?_
          refine g_aload_n X dX2_follow_100 rfl 0 rfl rfl ?_
          refine g_iconst (v := (1 : Int32)) X dX2_follow_101 (by decide) rfl ?_
          refine gB_ld_values X dX2_follow_102 (k := 1) rfl (by decide) rfl ?_
          refine g_aload_n X dX2_follow_103 rfl 0 rfl rfl ?_
          refine g_iconst (v := (2 : Int32)) X dX2_follow_104 (by decide) rfl ?_
          refine gB_ld_values X dX2_follow_105 (k := 2) rfl (by decide) rfl ?_
          refine g_callVWq (n := 3) (As := [_, _, _]) (rest := []) X hAg rfl (c_X2_passOn l D _ _ _ _ mk n b hW hNR (vl 0) (vl 1) (vl 2)) gX2_follow_X2_passOn rfl (by decide +kernel) ⟨Nat.le_of_ble_eq_true rfl, Nat.le_of_ble_eq_true rfl⟩ 0 rfl rfl [0, 1, 2, 3, 4, 5, 6, 7, 8, 9, 10, 11, 12, 13, 14, 15, 16] rfl (by decide) rfl rfl (Nat.le_of_ble_eq_true rfl) dX2_follow_106 ⟨Nat.le_of_ble_eq_true rfl, Nat.le_of_ble_eq_true rfl⟩ rfl (fun v w hv => ?_)
          obtain ⟨rfl, nb, n', w', rfl, hN9, h909⟩ := hv
          refine ⟨rfl, ?_⟩
          refine g_ws wB_h ?_
          refine g_st (st' := [_]) rfl ?_
          refine g_retW X hr (by first | rfl | exact b2i_nar _) dX2_follow_109 hAe ?_
          have e : (crS f kd (vl 0) (vl 1) (vl 2) (vl 3)) = passS f (vl 0) (vl 1) (vl 2) := by
            unfold crS
            rw [if_neg (by rw [ec9]; decide), if_neg (by rw [ec9]; decide), if_pos ec9]
          rw [e]
          exact ⟨rfl, nb, n', w', hN9, h909, rfl⟩
        · rcases Classical.em (kd = (115 : Int32)) with ec9 | ne115
          · refine g_lookup X dX2_follow_9 (by decide) (off := 70) (by rw [ec9]; decide) 79 (by decide) ?_
            refine g_aload_n X dX2_follow_79 rfl 1 rfl rfl ?_
            refine g_aload_n X dX2_follow_80 rfl 0 rfl rfl ?_
            refine g_iconst (v := (0 : Int32)) X dX2_follow_81 (by decide) rfl ?_
            refine gB_ld_values X dX2_follow_82 (k := 0) rfl (by decide) rfl ?_
            refine g_aload_n X dX2_follow_83 rfl 0 rfl rfl ?_
            refine g_iconst (v := (1 : Int32)) X dX2_follow_84 (by decide) rfl ?_
            refine gB_ld_values X dX2_follow_85 (k := 1) rfl (by decide) rfl ?_
            refine g_aload_n X dX2_follow_86 rfl 0 rfl rfl ?_
            refine g_iconst (v := (2 : Int32)) X dX2_follow_87 (by decide) rfl ?_
            refine gB_ld_values X dX2_follow_88 (k := 2) rfl (by decide) rfl ?_
            refine g_aload_n X dX2_follow_89 rfl 0 rfl rfl ?_
            refine g_iconst (v := (3 : Int32)) X dX2_follow_90 (by decide) rfl ?_
            refine gB_ld_values X dX2_follow_91 (k := 3) rfl (by decide) rfl ?_
            refine g_callVWq (n := 4) (As := [_, _, _, _]) (rest := []) X hAg rfl (c_X2_giveStamp l D _ _ _ _ mk n b hW hNR (vl 0) (vl 1) (vl 2) (vl 3)) gX2_follow_X2_giveStamp rfl (by decide +kernel) ⟨Nat.le_of_ble_eq_true rfl, Nat.le_of_ble_eq_true rfl⟩ 0 rfl rfl [0, 1, 2, 3, 4, 5, 6, 7, 8, 9, 10, 11, 12, 13, 14, 15, 16] rfl (by decide) rfl rfl (Nat.le_of_ble_eq_true rfl) dX2_follow_92 ⟨Nat.le_of_ble_eq_true rfl, Nat.le_of_ble_eq_true rfl⟩ rfl (fun v w hv => ?_)
            obtain ⟨rfl, nb, n', w', rfl, hN9, h909⟩ := hv
            refine ⟨rfl, ?_⟩
            refine g_ws wB_h ?_
            refine g_st (st' := [_]) rfl ?_
            refine g_retW X hr (by first | rfl | exact b2i_nar _) dX2_follow_95 hAe ?_
            have e : (crS f kd (vl 0) (vl 1) (vl 2) (vl 3)) = stampS f (vl 0) (vl 1) (vl 2) (vl 3) := by
              unfold crS
              rw [if_neg (by rw [ec9]; decide), if_neg (by rw [ec9]; decide), if_neg (by rw [ec9]; decide), if_pos ec9]
            rw [e]
            exact ⟨rfl, nb, n', w', hN9, h909, rfl⟩
          · rcases Classical.em (kd = (116 : Int32)) with ec9 | ne116
            · refine g_lookup X dX2_follow_9 (by decide) (off := 101) (by rw [ec9]; decide) 110 (by decide) ?_
              refine g_aload_n X dX2_follow_110 rfl 1 rfl rfl ?_
              refine g_aload_n X dX2_follow_111 rfl 0 rfl rfl ?_
              refine g_iconst (v := (0 : Int32)) X dX2_follow_112 (by decide) rfl ?_
              refine gB_ld_values X dX2_follow_113 (k := 0) rfl (by decide) rfl ?_
              refine g_callVWq (n := 1) (As := [_]) (rest := []) X hAg rfl (c_X2_revoke l D _ _ _ _ mk n b hW hNR (vl 0)) gX2_follow_X2_revoke rfl (by decide +kernel) ⟨Nat.le_of_ble_eq_true rfl, Nat.le_of_ble_eq_true rfl⟩ 0 rfl rfl [0, 1, 2, 3, 4, 5, 6, 7, 8, 9, 10, 11, 12, 13, 14, 15, 16] rfl (by decide) rfl rfl (Nat.le_of_ble_eq_true rfl) dX2_follow_114 ⟨Nat.le_of_ble_eq_true rfl, Nat.le_of_ble_eq_true rfl⟩ rfl (fun v w hv => ?_)
              obtain ⟨rfl, nb, n', w', rfl, hN9, h909⟩ := hv
              refine ⟨rfl, ?_⟩
              refine g_ws wB_h ?_
              refine g_st (st' := [_]) rfl ?_
              refine g_retW X hr (by first | rfl | exact b2i_nar _) dX2_follow_117 hAe ?_
              have e : (crS f kd (vl 0) (vl 1) (vl 2) (vl 3)) = takeS f (vl 0) := by
                unfold crS
                rw [if_neg (by rw [ec9]; decide), if_neg (by rw [ec9]; decide), if_neg (by rw [ec9]; decide), if_neg (by rw [ec9]; decide), if_pos ec9]
              rw [e]
              exact ⟨rfl, nb, n', w', hN9, h909, rfl⟩
            · refine g_lookup X dX2_follow_9 (by decide) (off := 138) (by show Op.lookupswitch.offset [(63, 123), (100, 109), (111, 59), (112, 87), (115, 70), (116, 101)] (138) (kd).toInt = (138); rw [lv_osw (a := 63) ne63 rfl, lv_osw (a := 100) ne100 rfl, lv_osw (a := 111) ne111 rfl, lv_osw (a := 112) ne112 rfl, lv_osw (a := 115) ne115 rfl, lv_osw (a := 116) ne116 rfl]; rfl) 147 (by decide) ?_
              refine g_bipush (v := ((-3) : Int32)) X dX2_follow_147 (by decide) rfl ?_
              refine g_retW X hr (by first | rfl | exact b2i_nar _) dX2_follow_149 hAe ?_
              exact absurd hkd (by simp [ne63, ne100, ne111, ne112, ne115, ne116])

set_option maxHeartbeats 4000000 in
set_option maxRecDepth 100000 in
theorem c_X6_set (l : Launch) (D : DT) (a : Nat → Nat) (f : Nat → Int32) (na : Nat → Nat → Int32) (w td vl : Nat → Int32) (L pt fl : Nat) (kd : Int32) (kp : Nat) (pq ps : Nat → Option HH) (mk n b : Nat) (hW : WF f mk n b) (hNR : NR f na n) (hF : FB f) (hkp : kp ≤ 6) (hq : HQ pq kp) (x y : Int32) : MW l yX6_set wsX6_set 4 93 16 340 D [.ref (a 19), .int x, .int y] (wB D a f na w td vl L pt fl kd kp (fqa pq) (fqa ps) (tlW D pq ps)) (chP D a f na w td vl L pt fl kd kp pq ps (setS f x y)) := by
  obtain ⟨hmk, h40, hn8, hb0, hb1, hb8, hnb, hst, hno, how, hdo, hs1, hs2, hs3, hZF⟩ := id hW
  have h8 : n ≤ 8 := by omega
  obtain ⟨eN1, eN2, eN3⟩ := hW.N
  refine MW.of (cc := cX6_set) (maxL := 3) (ret := (some .int)) (lv := [(0, .ref (a 19)), (1, .int x), (2, .int y)]) (by decide +kernel) rfl (Nat.le_of_ble_eq_true rfl) rfl ?_
  intro p e s m below meth c A hAe hAg X hr hmn
  have hinX60 : ∀ w ∈ wsX60, w ∈ wsX6_set := fun w h => List.mem_cons_of_mem _ (List.mem_append_left _ (List.mem_append_left _ (List.mem_append_left _ (List.mem_append_left _ (List.mem_append_right _ h)))))
  have hinX10 : ∀ w ∈ wsX10, w ∈ wsX6_set := fun w h => List.mem_cons_of_mem _ (List.mem_append_left _ (List.mem_append_left _ (List.mem_append_left _ (List.mem_append_right _ h))))
  have hinX20 : ∀ w ∈ wsX20, w ∈ wsX6_set := fun w h => List.mem_cons_of_mem _ (List.mem_append_left _ (List.mem_append_left _ (List.mem_append_right _ h)))
  have hinX40 : ∀ w ∈ wsX40, w ∈ wsX6_set := fun w h => List.mem_cons_of_mem _ (List.mem_append_left _ (List.mem_append_right _ h))
  have hinX00 : ∀ w ∈ wsX00, w ∈ wsX6_set := fun w h => List.mem_cons_of_mem _ (List.mem_append_right _ h)
  have hl33 := List.mem_of_getElem? (l := wsX6_set) (i := 1) rfl
  have hl12 := List.mem_of_getElem? (l := wsX6_set) (i := 2) rfl
  refine g_aload_n X dX6_set_0 rfl 0 rfl rfl ?_
  refine gB_get_VisaPages_history X dX6_set_1 hinX60 hl33 rfl ?_
  refine g_aload_n X dX6_set_4 rfl 0 rfl rfl ?_
  refine gB_get_VisaPages_house X dX6_set_5 hinX60 hl12 rfl ?_
  refine g_callVXs (n := 1) (As := [_]) (rest := []) X hAg rfl (c_X1_remember l D a f na w td vl L pt fl kd kp pq ps hF hkp) gX6_set_X1_remember rfl (by decide +kernel) ⟨Nat.le_of_ble_eq_true rfl, Nat.le_of_ble_eq_true rfl⟩ 21 rfl rfl  rfl rfl (Nat.le_of_ble_eq_true rfl) dX6_set_8 ⟨Nat.le_of_ble_eq_true rfl, Nat.le_of_ble_eq_true rfl⟩ rfl (fun v w hv => ?_)
  obtain ⟨rfl, b0, hb0, rfl⟩ := hv
  refine ⟨AD_wB (AD_q (h := (b0, f, na)) (by omega) hb0), ?_⟩
  refine g_st (st' := []) rfl ?_
  refine g_aload_n X dX6_set_11 rfl 0 rfl rfl ?_
  refine gB_get_VisaPages_history X dX6_set_12 hinX60 hl33 rfl ?_
  refine g_aload_n X dX6_set_15 rfl 0 rfl rfl ?_
  refine gB_get_VisaPages_house X dX6_set_16 hinX60 hl12 rfl ?_
  refine g_iload_n X dX6_set_19 rfl 1 rfl rfl ?_
  refine g_iload_n X dX6_set_20 rfl 2 rfl rfl ?_
  refine g_callVWq (n := 2) (As := [_, _]) (rest := [_]) X hAg rfl (c_X2_changeSetting l D _ _ _ _ mk n b hW hNR x y) gX6_set_X2_changeSetting rfl (by decide +kernel) ⟨Nat.le_of_ble_eq_true rfl, Nat.le_of_ble_eq_true rfl⟩ 0 rfl rfl [0, 1, 2, 3, 4, 5, 6, 7, 8, 9, 10, 11, 12, 13, 14, 15, 16] rfl (by decide) rfl rfl (Nat.le_of_ble_eq_true rfl) dX6_set_21 ⟨Nat.le_of_ble_eq_true rfl, Nat.le_of_ble_eq_true rfl⟩ rfl (fun v w hv => ?_)
  obtain ⟨rfl, nb, n', w', rfl, hN9, h909⟩ := hv
  refine ⟨rfl, ?_⟩
  refine g_ws wB_h ?_
  refine g_st (st' := [_, _]) rfl ?_
  refine g_callVXs (n := 1) (As := [_]) (rest := []) X hAg rfl (c_X1_keepUnlessError l D a (setS f x y).2 nb w' td vl L pt fl kd kp (up pq kp (some (b0, f, na))) ps hkp (fun e k hk => HQ_up hq k (by omega)) (setS f x y).1) gX6_set_X1_keepUnlessError rfl (by decide +kernel) ⟨Nat.le_of_ble_eq_true rfl, Nat.le_of_ble_eq_true rfl⟩ 21 rfl rfl  rfl rfl (Nat.le_of_ble_eq_true rfl) dX6_set_24 ⟨Nat.le_of_ble_eq_true rfl, Nat.le_of_ble_eq_true rfl⟩ rfl (fun v w hv => ?_)
  obtain ⟨rfl, rfl⟩ := hv
  refine ⟨AD_wB AD_kV, ?_⟩
  refine g_st (st' := [_]) rfl ?_
  refine g_widen 16 340 (Nat.le_of_ble_eq_true rfl) (Nat.le_of_ble_eq_true rfl) ?_
  refine g_retW X hr (by first | rfl | exact b2i_nar _) dX6_set_27 hAe ?_
  exact ⟨rfl, b0, nb, n', w', AD_wB (AD_kV.trans (AD_q (h := (b0, f, na)) (by omega) hb0)), hN9, h909, rfl⟩

set_option maxHeartbeats 4000000 in
set_option maxRecDepth 100000 in
theorem c_X6_own (l : Launch) (D : DT) (a : Nat → Nat) (f : Nat → Int32) (na : Nat → Nat → Int32) (w td vl : Nat → Int32) (L pt fl : Nat) (kd : Int32) (kp : Nat) (pq ps : Nat → Option HH) (mk n b : Nat) (hW : WF f mk n b) (hNR : NR f na n) (hF : FB f) (hkp : kp ≤ 6) (hq : HQ pq kp) (x y : Int32) : MW l yX6_own wsX6_own 5 119 16 340 D [.ref (a 19), .int x, .int y] (wB D a f na w td vl L pt fl kd kp (fqa pq) (fqa ps) (tlW D pq ps)) (chP D a f na w td vl L pt fl kd kp pq ps (ownS f x y)) := by
  obtain ⟨hmk, h40, hn8, hb0, hb1, hb8, hnb, hst, hno, how, hdo, hs1, hs2, hs3, hZF⟩ := id hW
  have h8 : n ≤ 8 := by omega
  obtain ⟨eN1, eN2, eN3⟩ := hW.N
  refine MW.of (cc := cX6_own) (maxL := 3) (ret := (some .int)) (lv := [(0, .ref (a 19)), (1, .int x), (2, .int y)]) (by decide +kernel) rfl (Nat.le_of_ble_eq_true rfl) rfl ?_
  intro p e s m below meth c A hAe hAg X hr hmn
  have hinX60 : ∀ w ∈ wsX60, w ∈ wsX6_own := fun w h => List.mem_cons_of_mem _ (List.mem_append_left _ (List.mem_append_left _ (List.mem_append_left _ (List.mem_append_left _ (List.mem_append_right _ h)))))
  have hinX10 : ∀ w ∈ wsX10, w ∈ wsX6_own := fun w h => List.mem_cons_of_mem _ (List.mem_append_left _ (List.mem_append_left _ (List.mem_append_left _ (List.mem_append_right _ h))))
  have hinX20 : ∀ w ∈ wsX20, w ∈ wsX6_own := fun w h => List.mem_cons_of_mem _ (List.mem_append_left _ (List.mem_append_left _ (List.mem_append_right _ h)))
  have hinX40 : ∀ w ∈ wsX40, w ∈ wsX6_own := fun w h => List.mem_cons_of_mem _ (List.mem_append_left _ (List.mem_append_right _ h))
  have hinX00 : ∀ w ∈ wsX00, w ∈ wsX6_own := fun w h => List.mem_cons_of_mem _ (List.mem_append_right _ h)
  have hl33 := List.mem_of_getElem? (l := wsX6_own) (i := 1) rfl
  have hl12 := List.mem_of_getElem? (l := wsX6_own) (i := 2) rfl
  refine g_aload_n X dX6_own_0 rfl 0 rfl rfl ?_
  refine gB_get_VisaPages_history X dX6_own_1 hinX60 hl33 rfl ?_
  refine g_aload_n X dX6_own_4 rfl 0 rfl rfl ?_
  refine gB_get_VisaPages_house X dX6_own_5 hinX60 hl12 rfl ?_
  refine g_callVXs (n := 1) (As := [_]) (rest := []) X hAg rfl (c_X1_remember l D a f na w td vl L pt fl kd kp pq ps hF hkp) gX6_own_X1_remember rfl (by decide +kernel) ⟨Nat.le_of_ble_eq_true rfl, Nat.le_of_ble_eq_true rfl⟩ 21 rfl rfl  rfl rfl (Nat.le_of_ble_eq_true rfl) dX6_own_8 ⟨Nat.le_of_ble_eq_true rfl, Nat.le_of_ble_eq_true rfl⟩ rfl (fun v w hv => ?_)
  obtain ⟨rfl, b0, hb0, rfl⟩ := hv
  refine ⟨AD_wB (AD_q (h := (b0, f, na)) (by omega) hb0), ?_⟩
  refine g_st (st' := []) rfl ?_
  refine g_aload_n X dX6_own_11 rfl 0 rfl rfl ?_
  refine gB_get_VisaPages_history X dX6_own_12 hinX60 hl33 rfl ?_
  refine g_aload_n X dX6_own_15 rfl 0 rfl rfl ?_
  refine gB_get_VisaPages_house X dX6_own_16 hinX60 hl12 rfl ?_
  refine g_iload_n X dX6_own_19 rfl 1 rfl rfl ?_
  refine g_iload_n X dX6_own_20 rfl 2 rfl rfl ?_
  refine g_callVWq (n := 2) (As := [_, _]) (rest := [_]) X hAg rfl (c_X2_changeOwner l D _ _ _ _ mk n b hW hNR x y) gX6_own_X2_changeOwner rfl (by decide +kernel) ⟨Nat.le_of_ble_eq_true rfl, Nat.le_of_ble_eq_true rfl⟩ 0 rfl rfl [0, 1, 2, 3, 4, 5, 6, 7, 8, 9, 10, 11, 12, 13, 14, 15, 16] rfl (by decide) rfl rfl (Nat.le_of_ble_eq_true rfl) dX6_own_21 ⟨Nat.le_of_ble_eq_true rfl, Nat.le_of_ble_eq_true rfl⟩ rfl (fun v w hv => ?_)
  obtain ⟨rfl, nb, n', w', rfl, hN9, h909⟩ := hv
  refine ⟨rfl, ?_⟩
  refine g_ws wB_h ?_
  refine g_st (st' := [_, _]) rfl ?_
  refine g_callVXs (n := 1) (As := [_]) (rest := []) X hAg rfl (c_X1_keepUnlessError l D a (ownS f x y).2 nb w' td vl L pt fl kd kp (up pq kp (some (b0, f, na))) ps hkp (fun e k hk => HQ_up hq k (by omega)) (ownS f x y).1) gX6_own_X1_keepUnlessError rfl (by decide +kernel) ⟨Nat.le_of_ble_eq_true rfl, Nat.le_of_ble_eq_true rfl⟩ 21 rfl rfl  rfl rfl (Nat.le_of_ble_eq_true rfl) dX6_own_24 ⟨Nat.le_of_ble_eq_true rfl, Nat.le_of_ble_eq_true rfl⟩ rfl (fun v w hv => ?_)
  obtain ⟨rfl, rfl⟩ := hv
  refine ⟨AD_wB AD_kV, ?_⟩
  refine g_st (st' := [_]) rfl ?_
  refine g_widen 16 340 (Nat.le_of_ble_eq_true rfl) (Nat.le_of_ble_eq_true rfl) ?_
  refine g_retW X hr (by first | rfl | exact b2i_nar _) dX6_own_27 hAe ?_
  exact ⟨rfl, b0, nb, n', w', AD_wB (AD_kV.trans (AD_q (h := (b0, f, na)) (by omega) hb0)), hN9, h909, rfl⟩

set_option maxHeartbeats 4000000 in
set_option maxRecDepth 100000 in
theorem c_X6_stamp (l : Launch) (D : DT) (a : Nat → Nat) (f : Nat → Int32) (na : Nat → Nat → Int32) (w td vl : Nat → Int32) (L pt fl : Nat) (kd : Int32) (kp : Nat) (pq ps : Nat → Option HH) (mk n b : Nat) (hW : WF f mk n b) (hNR : NR f na n) (hF : FB f) (hkp : kp ≤ 6) (hq : HQ pq kp) (x y z r : Int32) : MW l yX6_stamp wsX6_stamp 4 93 16 340 D [.ref (a 19), .int x, .int y, .int z, .int r] (wB D a f na w td vl L pt fl kd kp (fqa pq) (fqa ps) (tlW D pq ps)) (chP D a f na w td vl L pt fl kd kp pq ps (stampS f x y z r)) := by
  obtain ⟨hmk, h40, hn8, hb0, hb1, hb8, hnb, hst, hno, how, hdo, hs1, hs2, hs3, hZF⟩ := id hW
  have h8 : n ≤ 8 := by omega
  obtain ⟨eN1, eN2, eN3⟩ := hW.N
  refine MW.of (cc := cX6_stamp) (maxL := 5) (ret := (some .int)) (lv := [(0, .ref (a 19)), (1, .int x), (2, .int y), (3, .int z), (4, .int r)]) (by decide +kernel) rfl (Nat.le_of_ble_eq_true rfl) rfl ?_
  intro p e s m below meth c A hAe hAg X hr hmn
  have hinX60 : ∀ w ∈ wsX60, w ∈ wsX6_stamp := fun w h => List.mem_cons_of_mem _ (List.mem_append_left _ (List.mem_append_left _ (List.mem_append_left _ (List.mem_append_left _ (List.mem_append_right _ h)))))
  have hinX10 : ∀ w ∈ wsX10, w ∈ wsX6_stamp := fun w h => List.mem_cons_of_mem _ (List.mem_append_left _ (List.mem_append_left _ (List.mem_append_left _ (List.mem_append_right _ h))))
  have hinX20 : ∀ w ∈ wsX20, w ∈ wsX6_stamp := fun w h => List.mem_cons_of_mem _ (List.mem_append_left _ (List.mem_append_left _ (List.mem_append_right _ h)))
  have hinX40 : ∀ w ∈ wsX40, w ∈ wsX6_stamp := fun w h => List.mem_cons_of_mem _ (List.mem_append_left _ (List.mem_append_right _ h))
  have hinX00 : ∀ w ∈ wsX00, w ∈ wsX6_stamp := fun w h => List.mem_cons_of_mem _ (List.mem_append_right _ h)
  have hl33 := List.mem_of_getElem? (l := wsX6_stamp) (i := 1) rfl
  have hl12 := List.mem_of_getElem? (l := wsX6_stamp) (i := 2) rfl
  refine g_aload_n X dX6_stamp_0 rfl 0 rfl rfl ?_
  refine gB_get_VisaPages_history X dX6_stamp_1 hinX60 hl33 rfl ?_
  refine g_aload_n X dX6_stamp_4 rfl 0 rfl rfl ?_
  refine gB_get_VisaPages_house X dX6_stamp_5 hinX60 hl12 rfl ?_
  refine g_callVXs (n := 1) (As := [_]) (rest := []) X hAg rfl (c_X1_remember l D a f na w td vl L pt fl kd kp pq ps hF hkp) gX6_stamp_X1_remember rfl (by decide +kernel) ⟨Nat.le_of_ble_eq_true rfl, Nat.le_of_ble_eq_true rfl⟩ 21 rfl rfl  rfl rfl (Nat.le_of_ble_eq_true rfl) dX6_stamp_8 ⟨Nat.le_of_ble_eq_true rfl, Nat.le_of_ble_eq_true rfl⟩ rfl (fun v w hv => ?_)
  obtain ⟨rfl, b0, hb0, rfl⟩ := hv
  refine ⟨AD_wB (AD_q (h := (b0, f, na)) (by omega) hb0), ?_⟩
  refine g_st (st' := []) rfl ?_
  refine g_aload_n X dX6_stamp_11 rfl 0 rfl rfl ?_
  refine gB_get_VisaPages_history X dX6_stamp_12 hinX60 hl33 rfl ?_
  refine g_aload_n X dX6_stamp_15 rfl 0 rfl rfl ?_
  refine gB_get_VisaPages_house X dX6_stamp_16 hinX60 hl12 rfl ?_
  refine g_iload_n X dX6_stamp_19 rfl 1 rfl rfl ?_
  refine g_iload_n X dX6_stamp_20 rfl 2 rfl rfl ?_
  refine g_iload_n X dX6_stamp_21 rfl 3 rfl rfl ?_
  refine g_iload X dX6_stamp_22 4 rfl rfl ?_
  refine g_callVWq (n := 4) (As := [_, _, _, _]) (rest := [_]) X hAg rfl (c_X2_giveStamp l D _ _ _ _ mk n b hW hNR x y z r) gX6_stamp_X2_giveStamp rfl (by decide +kernel) ⟨Nat.le_of_ble_eq_true rfl, Nat.le_of_ble_eq_true rfl⟩ 0 rfl rfl [0, 1, 2, 3, 4, 5, 6, 7, 8, 9, 10, 11, 12, 13, 14, 15, 16] rfl (by decide) rfl rfl (Nat.le_of_ble_eq_true rfl) dX6_stamp_24 ⟨Nat.le_of_ble_eq_true rfl, Nat.le_of_ble_eq_true rfl⟩ rfl (fun v w hv => ?_)
  obtain ⟨rfl, nb, n', w', rfl, hN9, h909⟩ := hv
  refine ⟨rfl, ?_⟩
  refine g_ws wB_h ?_
  refine g_st (st' := [_, _]) rfl ?_
  refine g_callVXs (n := 1) (As := [_]) (rest := []) X hAg rfl (c_X1_keepUnlessError l D a (stampS f x y z r).2 nb w' td vl L pt fl kd kp (up pq kp (some (b0, f, na))) ps hkp (fun e k hk => HQ_up hq k (by omega)) (stampS f x y z r).1) gX6_stamp_X1_keepUnlessError rfl (by decide +kernel) ⟨Nat.le_of_ble_eq_true rfl, Nat.le_of_ble_eq_true rfl⟩ 21 rfl rfl  rfl rfl (Nat.le_of_ble_eq_true rfl) dX6_stamp_27 ⟨Nat.le_of_ble_eq_true rfl, Nat.le_of_ble_eq_true rfl⟩ rfl (fun v w hv => ?_)
  obtain ⟨rfl, rfl⟩ := hv
  refine ⟨AD_wB AD_kV, ?_⟩
  refine g_st (st' := [_]) rfl ?_
  refine g_widen 16 340 (Nat.le_of_ble_eq_true rfl) (Nat.le_of_ble_eq_true rfl) ?_
  refine g_retW X hr (by first | rfl | exact b2i_nar _) dX6_stamp_30 hAe ?_
  exact ⟨rfl, b0, nb, n', w', AD_wB (AD_kV.trans (AD_q (h := (b0, f, na)) (by omega) hb0)), hN9, h909, rfl⟩

set_option maxHeartbeats 4000000 in
set_option maxRecDepth 100000 in
theorem c_X6_pass (l : Launch) (D : DT) (a : Nat → Nat) (f : Nat → Int32) (na : Nat → Nat → Int32) (w td vl : Nat → Int32) (L pt fl : Nat) (kd : Int32) (kp : Nat) (pq ps : Nat → Option HH) (mk n b : Nat) (hW : WF f mk n b) (hNR : NR f na n) (hF : FB f) (hkp : kp ≤ 6) (hq : HQ pq kp) (x y z : Int32) : MW l yX6_pass wsX6_pass 4 96 16 340 D [.ref (a 19), .int x, .int y, .int z] (wB D a f na w td vl L pt fl kd kp (fqa pq) (fqa ps) (tlW D pq ps)) (chP D a f na w td vl L pt fl kd kp pq ps (passS f x y z)) := by
  obtain ⟨hmk, h40, hn8, hb0, hb1, hb8, hnb, hst, hno, how, hdo, hs1, hs2, hs3, hZF⟩ := id hW
  have h8 : n ≤ 8 := by omega
  obtain ⟨eN1, eN2, eN3⟩ := hW.N
  refine MW.of (cc := cX6_pass) (maxL := 4) (ret := (some .int)) (lv := [(0, .ref (a 19)), (1, .int x), (2, .int y), (3, .int z)]) (by decide +kernel) rfl (Nat.le_of_ble_eq_true rfl) rfl ?_
  intro p e s m below meth c A hAe hAg X hr hmn
  have hinX60 : ∀ w ∈ wsX60, w ∈ wsX6_pass := fun w h => List.mem_cons_of_mem _ (List.mem_append_left _ (List.mem_append_left _ (List.mem_append_left _ (List.mem_append_left _ (List.mem_append_right _ h)))))
  have hinX10 : ∀ w ∈ wsX10, w ∈ wsX6_pass := fun w h => List.mem_cons_of_mem _ (List.mem_append_left _ (List.mem_append_left _ (List.mem_append_left _ (List.mem_append_right _ h))))
  have hinX20 : ∀ w ∈ wsX20, w ∈ wsX6_pass := fun w h => List.mem_cons_of_mem _ (List.mem_append_left _ (List.mem_append_left _ (List.mem_append_right _ h)))
  have hinX40 : ∀ w ∈ wsX40, w ∈ wsX6_pass := fun w h => List.mem_cons_of_mem _ (List.mem_append_left _ (List.mem_append_right _ h))
  have hinX00 : ∀ w ∈ wsX00, w ∈ wsX6_pass := fun w h => List.mem_cons_of_mem _ (List.mem_append_right _ h)
  have hl33 := List.mem_of_getElem? (l := wsX6_pass) (i := 1) rfl
  have hl12 := List.mem_of_getElem? (l := wsX6_pass) (i := 2) rfl
  refine g_aload_n X dX6_pass_0 rfl 0 rfl rfl ?_
  refine gB_get_VisaPages_history X dX6_pass_1 hinX60 hl33 rfl ?_
  refine g_aload_n X dX6_pass_4 rfl 0 rfl rfl ?_
  refine gB_get_VisaPages_house X dX6_pass_5 hinX60 hl12 rfl ?_
  refine g_callVXs (n := 1) (As := [_]) (rest := []) X hAg rfl (c_X1_remember l D a f na w td vl L pt fl kd kp pq ps hF hkp) gX6_pass_X1_remember rfl (by decide +kernel) ⟨Nat.le_of_ble_eq_true rfl, Nat.le_of_ble_eq_true rfl⟩ 21 rfl rfl  rfl rfl (Nat.le_of_ble_eq_true rfl) dX6_pass_8 ⟨Nat.le_of_ble_eq_true rfl, Nat.le_of_ble_eq_true rfl⟩ rfl (fun v w hv => ?_)
  obtain ⟨rfl, b0, hb0, rfl⟩ := hv
  refine ⟨AD_wB (AD_q (h := (b0, f, na)) (by omega) hb0), ?_⟩
  refine g_st (st' := []) rfl ?_
  refine g_aload_n X dX6_pass_11 rfl 0 rfl rfl ?_
  refine gB_get_VisaPages_history X dX6_pass_12 hinX60 hl33 rfl ?_
  refine g_aload_n X dX6_pass_15 rfl 0 rfl rfl ?_
  refine gB_get_VisaPages_house X dX6_pass_16 hinX60 hl12 rfl ?_
  refine g_iload_n X dX6_pass_19 rfl 1 rfl rfl ?_
  refine g_iload_n X dX6_pass_20 rfl 2 rfl rfl ?_
  refine g_iload_n X dX6_pass_21 rfl 3 rfl rfl ?_
  refine g_callVWq (n := 3) (As := [_, _, _]) (rest := [_]) X hAg rfl (c_X2_passOn l D _ _ _ _ mk n b hW hNR x y z) gX6_pass_X2_passOn rfl (by decide +kernel) ⟨Nat.le_of_ble_eq_true rfl, Nat.le_of_ble_eq_true rfl⟩ 0 rfl rfl [0, 1, 2, 3, 4, 5, 6, 7, 8, 9, 10, 11, 12, 13, 14, 15, 16] rfl (by decide) rfl rfl (Nat.le_of_ble_eq_true rfl) dX6_pass_22 ⟨Nat.le_of_ble_eq_true rfl, Nat.le_of_ble_eq_true rfl⟩ rfl (fun v w hv => ?_)
  obtain ⟨rfl, nb, n', w', rfl, hN9, h909⟩ := hv
  refine ⟨rfl, ?_⟩
  refine g_ws wB_h ?_
  refine g_st (st' := [_, _]) rfl ?_
  refine g_callVXs (n := 1) (As := [_]) (rest := []) X hAg rfl (c_X1_keepUnlessError l D a (passS f x y z).2 nb w' td vl L pt fl kd kp (up pq kp (some (b0, f, na))) ps hkp (fun e k hk => HQ_up hq k (by omega)) (passS f x y z).1) gX6_pass_X1_keepUnlessError rfl (by decide +kernel) ⟨Nat.le_of_ble_eq_true rfl, Nat.le_of_ble_eq_true rfl⟩ 21 rfl rfl  rfl rfl (Nat.le_of_ble_eq_true rfl) dX6_pass_25 ⟨Nat.le_of_ble_eq_true rfl, Nat.le_of_ble_eq_true rfl⟩ rfl (fun v w hv => ?_)
  obtain ⟨rfl, rfl⟩ := hv
  refine ⟨AD_wB AD_kV, ?_⟩
  refine g_st (st' := [_]) rfl ?_
  refine g_widen 16 340 (Nat.le_of_ble_eq_true rfl) (Nat.le_of_ble_eq_true rfl) ?_
  refine g_retW X hr (by first | rfl | exact b2i_nar _) dX6_pass_28 hAe ?_
  exact ⟨rfl, b0, nb, n', w', AD_wB (AD_kV.trans (AD_q (h := (b0, f, na)) (by omega) hb0)), hN9, h909, rfl⟩

set_option maxHeartbeats 4000000 in
set_option maxRecDepth 100000 in
theorem c_X6_forge (l : Launch) (D : DT) (a : Nat → Nat) (f : Nat → Int32) (na : Nat → Nat → Int32) (w td vl : Nat → Int32) (L pt fl : Nat) (kd : Int32) (kp : Nat) (pq ps : Nat → Option HH) (mk n b : Nat) (hW : WF f mk n b) (hNR : NR f na n) (hF : FB f) (hkp : kp ≤ 6) (hq : HQ pq kp) (x y z r q : Int32) : MW l yX6_forge wsX6_forge 4 93 16 340 D [.ref (a 19), .int x, .int y, .int z, .int r, .int q] (wB D a f na w td vl L pt fl kd kp (fqa pq) (fqa ps) (tlW D pq ps)) (chP D a f na w td vl L pt fl kd kp pq ps (forgeS f x y z r q)) := by
  obtain ⟨hmk, h40, hn8, hb0, hb1, hb8, hnb, hst, hno, how, hdo, hs1, hs2, hs3, hZF⟩ := id hW
  have h8 : n ≤ 8 := by omega
  obtain ⟨eN1, eN2, eN3⟩ := hW.N
  refine MW.of (cc := cX6_forge) (maxL := 6) (ret := (some .int)) (lv := [(0, .ref (a 19)), (1, .int x), (2, .int y), (3, .int z), (4, .int r), (5, .int q)]) (by decide +kernel) rfl (Nat.le_of_ble_eq_true rfl) rfl ?_
  intro p e s m below meth c A hAe hAg X hr hmn
  have hinX60 : ∀ w ∈ wsX60, w ∈ wsX6_forge := fun w h => List.mem_cons_of_mem _ (List.mem_append_left _ (List.mem_append_left _ (List.mem_append_left _ (List.mem_append_left _ (List.mem_append_right _ h)))))
  have hinX10 : ∀ w ∈ wsX10, w ∈ wsX6_forge := fun w h => List.mem_cons_of_mem _ (List.mem_append_left _ (List.mem_append_left _ (List.mem_append_left _ (List.mem_append_right _ h))))
  have hinX20 : ∀ w ∈ wsX20, w ∈ wsX6_forge := fun w h => List.mem_cons_of_mem _ (List.mem_append_left _ (List.mem_append_left _ (List.mem_append_right _ h)))
  have hinX40 : ∀ w ∈ wsX40, w ∈ wsX6_forge := fun w h => List.mem_cons_of_mem _ (List.mem_append_left _ (List.mem_append_right _ h))
  have hinX00 : ∀ w ∈ wsX00, w ∈ wsX6_forge := fun w h => List.mem_cons_of_mem _ (List.mem_append_right _ h)
  have hl33 := List.mem_of_getElem? (l := wsX6_forge) (i := 1) rfl
  have hl12 := List.mem_of_getElem? (l := wsX6_forge) (i := 2) rfl
  refine g_aload_n X dX6_forge_0 rfl 0 rfl rfl ?_
  refine gB_get_VisaPages_history X dX6_forge_1 hinX60 hl33 rfl ?_
  refine g_aload_n X dX6_forge_4 rfl 0 rfl rfl ?_
  refine gB_get_VisaPages_house X dX6_forge_5 hinX60 hl12 rfl ?_
  refine g_callVXs (n := 1) (As := [_]) (rest := []) X hAg rfl (c_X1_remember l D a f na w td vl L pt fl kd kp pq ps hF hkp) gX6_forge_X1_remember rfl (by decide +kernel) ⟨Nat.le_of_ble_eq_true rfl, Nat.le_of_ble_eq_true rfl⟩ 21 rfl rfl  rfl rfl (Nat.le_of_ble_eq_true rfl) dX6_forge_8 ⟨Nat.le_of_ble_eq_true rfl, Nat.le_of_ble_eq_true rfl⟩ rfl (fun v w hv => ?_)
  obtain ⟨rfl, b0, hb0, rfl⟩ := hv
  refine ⟨AD_wB (AD_q (h := (b0, f, na)) (by omega) hb0), ?_⟩
  refine g_st (st' := []) rfl ?_
  refine g_aload_n X dX6_forge_11 rfl 0 rfl rfl ?_
  refine gB_get_VisaPages_history X dX6_forge_12 hinX60 hl33 rfl ?_
  refine g_aload_n X dX6_forge_15 rfl 0 rfl rfl ?_
  refine gB_get_VisaPages_house X dX6_forge_16 hinX60 hl12 rfl ?_
  refine g_iload_n X dX6_forge_19 rfl 1 rfl rfl ?_
  refine g_iload_n X dX6_forge_20 rfl 2 rfl rfl ?_
  refine g_iload_n X dX6_forge_21 rfl 3 rfl rfl ?_
  refine g_iload X dX6_forge_22 4 rfl rfl ?_
  refine g_iload X dX6_forge_24 5 rfl rfl ?_
  refine g_callVWq (n := 5) (As := [_, _, _, _, _]) (rest := [_]) X hAg rfl (c_X2_forgeStamp l D _ _ _ _ mk n b hW hNR x y z r q) gX6_forge_X2_forgeStamp rfl (by decide +kernel) ⟨Nat.le_of_ble_eq_true rfl, Nat.le_of_ble_eq_true rfl⟩ 0 rfl rfl [0, 1, 2, 3, 4, 5, 6, 7, 8, 9, 10, 11, 12, 13, 14, 15, 16] rfl (by decide) rfl rfl (Nat.le_of_ble_eq_true rfl) dX6_forge_26 ⟨Nat.le_of_ble_eq_true rfl, Nat.le_of_ble_eq_true rfl⟩ rfl (fun v w hv => ?_)
  obtain ⟨rfl, nb, n', w', rfl, hN9, h909⟩ := hv
  refine ⟨rfl, ?_⟩
  refine g_ws wB_h ?_
  refine g_st (st' := [_, _]) rfl ?_
  refine g_callVXs (n := 1) (As := [_]) (rest := []) X hAg rfl (c_X1_keepUnlessError l D a (forgeS f x y z r q).2 nb w' td vl L pt fl kd kp (up pq kp (some (b0, f, na))) ps hkp (fun e k hk => HQ_up hq k (by omega)) (forgeS f x y z r q).1) gX6_forge_X1_keepUnlessError rfl (by decide +kernel) ⟨Nat.le_of_ble_eq_true rfl, Nat.le_of_ble_eq_true rfl⟩ 21 rfl rfl  rfl rfl (Nat.le_of_ble_eq_true rfl) dX6_forge_29 ⟨Nat.le_of_ble_eq_true rfl, Nat.le_of_ble_eq_true rfl⟩ rfl (fun v w hv => ?_)
  obtain ⟨rfl, rfl⟩ := hv
  refine ⟨AD_wB AD_kV, ?_⟩
  refine g_st (st' := [_]) rfl ?_
  refine g_widen 16 340 (Nat.le_of_ble_eq_true rfl) (Nat.le_of_ble_eq_true rfl) ?_
  refine g_retW X hr (by first | rfl | exact b2i_nar _) dX6_forge_32 hAe ?_
  exact ⟨rfl, b0, nb, n', w', AD_wB (AD_kV.trans (AD_q (h := (b0, f, na)) (by omega) hb0)), hN9, h909, rfl⟩

set_option maxHeartbeats 4000000 in
set_option maxRecDepth 100000 in
theorem c_X6_takeBack (l : Launch) (D : DT) (a : Nat → Nat) (f : Nat → Int32) (na : Nat → Nat → Int32) (w td vl : Nat → Int32) (L pt fl : Nat) (kd : Int32) (kp : Nat) (pq ps : Nat → Option HH) (mk n b : Nat) (hW : WF f mk n b) (hNR : NR f na n) (hF : FB f) (hkp : kp ≤ 6) (hq : HQ pq kp) (x : Int32) : MW l yX6_takeBack wsX6_takeBack 5 118 16 340 D [.ref (a 19), .int x] (wB D a f na w td vl L pt fl kd kp (fqa pq) (fqa ps) (tlW D pq ps)) (chP D a f na w td vl L pt fl kd kp pq ps (takeS f x)) := by
  obtain ⟨hmk, h40, hn8, hb0, hb1, hb8, hnb, hst, hno, how, hdo, hs1, hs2, hs3, hZF⟩ := id hW
  have h8 : n ≤ 8 := by omega
  obtain ⟨eN1, eN2, eN3⟩ := hW.N
  refine MW.of (cc := cX6_takeBack) (maxL := 2) (ret := (some .int)) (lv := [(0, .ref (a 19)), (1, .int x)]) (by decide +kernel) rfl (Nat.le_of_ble_eq_true rfl) rfl ?_
  intro p e s m below meth c A hAe hAg X hr hmn
  have hinX60 : ∀ w ∈ wsX60, w ∈ wsX6_takeBack := fun w h => List.mem_cons_of_mem _ (List.mem_append_left _ (List.mem_append_left _ (List.mem_append_left _ (List.mem_append_left _ (List.mem_append_right _ h)))))
  have hinX10 : ∀ w ∈ wsX10, w ∈ wsX6_takeBack := fun w h => List.mem_cons_of_mem _ (List.mem_append_left _ (List.mem_append_left _ (List.mem_append_left _ (List.mem_append_right _ h))))
  have hinX20 : ∀ w ∈ wsX20, w ∈ wsX6_takeBack := fun w h => List.mem_cons_of_mem _ (List.mem_append_left _ (List.mem_append_left _ (List.mem_append_right _ h)))
  have hinX40 : ∀ w ∈ wsX40, w ∈ wsX6_takeBack := fun w h => List.mem_cons_of_mem _ (List.mem_append_left _ (List.mem_append_right _ h))
  have hinX00 : ∀ w ∈ wsX00, w ∈ wsX6_takeBack := fun w h => List.mem_cons_of_mem _ (List.mem_append_right _ h)
  have hl33 := List.mem_of_getElem? (l := wsX6_takeBack) (i := 1) rfl
  have hl12 := List.mem_of_getElem? (l := wsX6_takeBack) (i := 2) rfl
  refine g_aload_n X dX6_takeBack_0 rfl 0 rfl rfl ?_
  refine gB_get_VisaPages_history X dX6_takeBack_1 hinX60 hl33 rfl ?_
  refine g_aload_n X dX6_takeBack_4 rfl 0 rfl rfl ?_
  refine gB_get_VisaPages_house X dX6_takeBack_5 hinX60 hl12 rfl ?_
  refine g_callVXs (n := 1) (As := [_]) (rest := []) X hAg rfl (c_X1_remember l D a f na w td vl L pt fl kd kp pq ps hF hkp) gX6_takeBack_X1_remember rfl (by decide +kernel) ⟨Nat.le_of_ble_eq_true rfl, Nat.le_of_ble_eq_true rfl⟩ 21 rfl rfl  rfl rfl (Nat.le_of_ble_eq_true rfl) dX6_takeBack_8 ⟨Nat.le_of_ble_eq_true rfl, Nat.le_of_ble_eq_true rfl⟩ rfl (fun v w hv => ?_)
  obtain ⟨rfl, b0, hb0, rfl⟩ := hv
  refine ⟨AD_wB (AD_q (h := (b0, f, na)) (by omega) hb0), ?_⟩
  refine g_st (st' := []) rfl ?_
  refine g_aload_n X dX6_takeBack_11 rfl 0 rfl rfl ?_
  refine gB_get_VisaPages_history X dX6_takeBack_12 hinX60 hl33 rfl ?_
  refine g_aload_n X dX6_takeBack_15 rfl 0 rfl rfl ?_
  refine gB_get_VisaPages_house X dX6_takeBack_16 hinX60 hl12 rfl ?_
  refine g_iload_n X dX6_takeBack_19 rfl 1 rfl rfl ?_
  refine g_callVWq (n := 1) (As := [_]) (rest := [_]) X hAg rfl (c_X2_revoke l D _ _ _ _ mk n b hW hNR x) gX6_takeBack_X2_revoke rfl (by decide +kernel) ⟨Nat.le_of_ble_eq_true rfl, Nat.le_of_ble_eq_true rfl⟩ 0 rfl rfl [0, 1, 2, 3, 4, 5, 6, 7, 8, 9, 10, 11, 12, 13, 14, 15, 16] rfl (by decide) rfl rfl (Nat.le_of_ble_eq_true rfl) dX6_takeBack_20 ⟨Nat.le_of_ble_eq_true rfl, Nat.le_of_ble_eq_true rfl⟩ rfl (fun v w hv => ?_)
  obtain ⟨rfl, nb, n', w', rfl, hN9, h909⟩ := hv
  refine ⟨rfl, ?_⟩
  refine g_ws wB_h ?_
  refine g_st (st' := [_, _]) rfl ?_
  refine g_callVXs (n := 1) (As := [_]) (rest := []) X hAg rfl (c_X1_keepUnlessError l D a (takeS f x).2 nb w' td vl L pt fl kd kp (up pq kp (some (b0, f, na))) ps hkp (fun e k hk => HQ_up hq k (by omega)) (takeS f x).1) gX6_takeBack_X1_keepUnlessError rfl (by decide +kernel) ⟨Nat.le_of_ble_eq_true rfl, Nat.le_of_ble_eq_true rfl⟩ 21 rfl rfl  rfl rfl (Nat.le_of_ble_eq_true rfl) dX6_takeBack_23 ⟨Nat.le_of_ble_eq_true rfl, Nat.le_of_ble_eq_true rfl⟩ rfl (fun v w hv => ?_)
  obtain ⟨rfl, rfl⟩ := hv
  refine ⟨AD_wB AD_kV, ?_⟩
  refine g_st (st' := [_]) rfl ?_
  refine g_widen 16 340 (Nat.le_of_ble_eq_true rfl) (Nat.le_of_ble_eq_true rfl) ?_
  refine g_retW X hr (by first | rfl | exact b2i_nar _) dX6_takeBack_26 hAe ?_
  exact ⟨rfl, b0, nb, n', w', AD_wB (AD_kV.trans (AD_q (h := (b0, f, na)) (by omega) hb0)), hN9, h909, rfl⟩

set_option maxHeartbeats 4000000 in
set_option maxRecDepth 100000 in
theorem c_X6_door (l : Launch) (D : DT) (a : Nat → Nat) (f : Nat → Int32) (na : Nat → Nat → Int32) (w td vl : Nat → Int32) (L pt fl : Nat) (kd : Int32) (kp : Nat) (pq ps : Nat → Option HH) (mk n b : Nat) (hW : WF f mk n b) (hNR : NR f na n) (hF : FB f) (hkp : kp ≤ 6) (hq : HQ pq kp) (x y z : Int32) : MW l yX6_door wsX6_door 4 93 16 340 D [.ref (a 19), .int x, .int y, .int z] (wB D a f na w td vl L pt fl kd kp (fqa pq) (fqa ps) (tlW D pq ps)) (chP D a f na w td vl L pt fl kd kp pq ps (doorS f x y z)) := by
  obtain ⟨hmk, h40, hn8, hb0, hb1, hb8, hnb, hst, hno, how, hdo, hs1, hs2, hs3, hZF⟩ := id hW
  have h8 : n ≤ 8 := by omega
  obtain ⟨eN1, eN2, eN3⟩ := hW.N
  refine MW.of (cc := cX6_door) (maxL := 4) (ret := (some .int)) (lv := [(0, .ref (a 19)), (1, .int x), (2, .int y), (3, .int z)]) (by decide +kernel) rfl (Nat.le_of_ble_eq_true rfl) rfl ?_
  intro p e s m below meth c A hAe hAg X hr hmn
  have hinX60 : ∀ w ∈ wsX60, w ∈ wsX6_door := fun w h => List.mem_cons_of_mem _ (List.mem_append_left _ (List.mem_append_left _ (List.mem_append_left _ (List.mem_append_left _ (List.mem_append_right _ h)))))
  have hinX10 : ∀ w ∈ wsX10, w ∈ wsX6_door := fun w h => List.mem_cons_of_mem _ (List.mem_append_left _ (List.mem_append_left _ (List.mem_append_left _ (List.mem_append_right _ h))))
  have hinX20 : ∀ w ∈ wsX20, w ∈ wsX6_door := fun w h => List.mem_cons_of_mem _ (List.mem_append_left _ (List.mem_append_left _ (List.mem_append_right _ h)))
  have hinX40 : ∀ w ∈ wsX40, w ∈ wsX6_door := fun w h => List.mem_cons_of_mem _ (List.mem_append_left _ (List.mem_append_right _ h))
  have hinX00 : ∀ w ∈ wsX00, w ∈ wsX6_door := fun w h => List.mem_cons_of_mem _ (List.mem_append_right _ h)
  have hl33 := List.mem_of_getElem? (l := wsX6_door) (i := 1) rfl
  have hl12 := List.mem_of_getElem? (l := wsX6_door) (i := 2) rfl
  refine g_aload_n X dX6_door_0 rfl 0 rfl rfl ?_
  refine gB_get_VisaPages_history X dX6_door_1 hinX60 hl33 rfl ?_
  refine g_aload_n X dX6_door_4 rfl 0 rfl rfl ?_
  refine gB_get_VisaPages_house X dX6_door_5 hinX60 hl12 rfl ?_
  refine g_callVXs (n := 1) (As := [_]) (rest := []) X hAg rfl (c_X1_remember l D a f na w td vl L pt fl kd kp pq ps hF hkp) gX6_door_X1_remember rfl (by decide +kernel) ⟨Nat.le_of_ble_eq_true rfl, Nat.le_of_ble_eq_true rfl⟩ 21 rfl rfl  rfl rfl (Nat.le_of_ble_eq_true rfl) dX6_door_8 ⟨Nat.le_of_ble_eq_true rfl, Nat.le_of_ble_eq_true rfl⟩ rfl (fun v w hv => ?_)
  obtain ⟨rfl, b0, hb0, rfl⟩ := hv
  refine ⟨AD_wB (AD_q (h := (b0, f, na)) (by omega) hb0), ?_⟩
  refine g_st (st' := []) rfl ?_
  refine g_aload_n X dX6_door_11 rfl 0 rfl rfl ?_
  refine gB_get_VisaPages_history X dX6_door_12 hinX60 hl33 rfl ?_
  refine g_aload_n X dX6_door_15 rfl 0 rfl rfl ?_
  refine gB_get_VisaPages_house X dX6_door_16 hinX60 hl12 rfl ?_
  refine g_iload_n X dX6_door_19 rfl 1 rfl rfl ?_
  refine g_iload_n X dX6_door_20 rfl 2 rfl rfl ?_
  refine g_iload_n X dX6_door_21 rfl 3 rfl rfl ?_
  refine g_callVWq (n := 3) (As := [_, _, _]) (rest := [_]) X hAg rfl (c_X2_leadDoor l D _ _ _ _ mk n b hW hNR x y z) gX6_door_X2_leadDoor rfl (by decide +kernel) ⟨Nat.le_of_ble_eq_true rfl, Nat.le_of_ble_eq_true rfl⟩ 0 rfl rfl [0, 1, 2, 3, 4, 5, 6, 7, 8, 9, 10, 11, 12, 13, 14, 15, 16] rfl (by decide) rfl rfl (Nat.le_of_ble_eq_true rfl) dX6_door_22 ⟨Nat.le_of_ble_eq_true rfl, Nat.le_of_ble_eq_true rfl⟩ rfl (fun v w hv => ?_)
  obtain ⟨rfl, nb, n', w', rfl, hN9, h909⟩ := hv
  refine ⟨rfl, ?_⟩
  refine g_ws wB_h ?_
  refine g_st (st' := [_, _]) rfl ?_
  refine g_callVXs (n := 1) (As := [_]) (rest := []) X hAg rfl (c_X1_keepUnlessError l D a (doorS f x y z).2 nb w' td vl L pt fl kd kp (up pq kp (some (b0, f, na))) ps hkp (fun e k hk => HQ_up hq k (by omega)) (doorS f x y z).1) gX6_door_X1_keepUnlessError rfl (by decide +kernel) ⟨Nat.le_of_ble_eq_true rfl, Nat.le_of_ble_eq_true rfl⟩ 21 rfl rfl  rfl rfl (Nat.le_of_ble_eq_true rfl) dX6_door_25 ⟨Nat.le_of_ble_eq_true rfl, Nat.le_of_ble_eq_true rfl⟩ rfl (fun v w hv => ?_)
  obtain ⟨rfl, rfl⟩ := hv
  refine ⟨AD_wB AD_kV, ?_⟩
  refine g_st (st' := [_]) rfl ?_
  refine g_widen 16 340 (Nat.le_of_ble_eq_true rfl) (Nat.le_of_ble_eq_true rfl) ?_
  refine g_retW X hr (by first | rfl | exact b2i_nar _) dX6_door_28 hAe ?_
  exact ⟨rfl, b0, nb, n', w', AD_wB (AD_kV.trans (AD_q (h := (b0, f, na)) (by omega) hb0)), hN9, h909, rfl⟩

set_option maxHeartbeats 4000000 in
set_option maxRecDepth 100000 in
theorem c_X6_come (l : Launch) (D : DT) (a : Nat → Nat) (f : Nat → Int32) (na : Nat → Nat → Int32) (w td vl : Nat → Int32) (L pt fl : Nat) (kd : Int32) (kp : Nat) (pq ps : Nat → Option HH) (mk n b : Nat) (hW : WF f mk n b) (hNR : NR f na n) (hF : FB f) (hkp : kp ≤ 6) (hq : HQ pq kp) (x y z : Int32) : MW l yX6_come wsX6_come 5 122 16 340 D [.ref (a 19), .int x, .int y, .int z] (wB D a f na w td vl L pt fl kd kp (fqa pq) (fqa ps) (tlW D pq ps)) (chP D a f na w td vl L pt fl kd kp pq ps (comeS f x y z)) := by
  obtain ⟨hmk, h40, hn8, hb0, hb1, hb8, hnb, hst, hno, how, hdo, hs1, hs2, hs3, hZF⟩ := id hW
  have h8 : n ≤ 8 := by omega
  obtain ⟨eN1, eN2, eN3⟩ := hW.N
  refine MW.of (cc := cX6_come) (maxL := 4) (ret := (some .int)) (lv := [(0, .ref (a 19)), (1, .int x), (2, .int y), (3, .int z)]) (by decide +kernel) rfl (Nat.le_of_ble_eq_true rfl) rfl ?_
  intro p e s m below meth c A hAe hAg X hr hmn
  have hinX60 : ∀ w ∈ wsX60, w ∈ wsX6_come := fun w h => List.mem_cons_of_mem _ (List.mem_append_left _ (List.mem_append_left _ (List.mem_append_left _ (List.mem_append_left _ (List.mem_append_left _ (List.mem_append_right _ h))))))
  have hinX10 : ∀ w ∈ wsX10, w ∈ wsX6_come := fun w h => List.mem_cons_of_mem _ (List.mem_append_left _ (List.mem_append_left _ (List.mem_append_left _ (List.mem_append_left _ (List.mem_append_right _ h)))))
  have hinX20 : ∀ w ∈ wsX20, w ∈ wsX6_come := fun w h => List.mem_cons_of_mem _ (List.mem_append_left _ (List.mem_append_left _ (List.mem_append_left _ (List.mem_append_right _ h))))
  have hinX40 : ∀ w ∈ wsX40, w ∈ wsX6_come := fun w h => List.mem_cons_of_mem _ (List.mem_append_left _ (List.mem_append_left _ (List.mem_append_right _ h)))
  have hinX00 : ∀ w ∈ wsX00, w ∈ wsX6_come := fun w h => List.mem_cons_of_mem _ (List.mem_append_left _ (List.mem_append_right _ h))
  have hinX50 : ∀ w ∈ wsX50, w ∈ wsX6_come := fun w h => List.mem_cons_of_mem _ (List.mem_append_right _ h)
  have hl33 := List.mem_of_getElem? (l := wsX6_come) (i := 1) rfl
  have hl12 := List.mem_of_getElem? (l := wsX6_come) (i := 2) rfl
  have hl19 := List.mem_of_getElem? (l := wsX6_come) (i := 3) rfl
  refine g_aload_n X dX6_come_0 rfl 0 rfl rfl ?_
  refine gB_get_VisaPages_history X dX6_come_1 hinX60 hl33 rfl ?_
  refine g_aload_n X dX6_come_4 rfl 0 rfl rfl ?_
  refine gB_get_VisaPages_house X dX6_come_5 hinX60 hl12 rfl ?_
  refine g_callVXs (n := 1) (As := [_]) (rest := []) X hAg rfl (c_X1_remember l D a f na w td vl L pt fl kd kp pq ps hF hkp) gX6_come_X1_remember rfl (by decide +kernel) ⟨Nat.le_of_ble_eq_true rfl, Nat.le_of_ble_eq_true rfl⟩ 21 rfl rfl  rfl rfl (Nat.le_of_ble_eq_true rfl) dX6_come_8 ⟨Nat.le_of_ble_eq_true rfl, Nat.le_of_ble_eq_true rfl⟩ rfl (fun v w hv => ?_)
  obtain ⟨rfl, b0, hb0, rfl⟩ := hv
  refine ⟨AD_wB (AD_q (h := (b0, f, na)) (by omega) hb0), ?_⟩
  refine g_st (st' := []) rfl ?_
  refine g_aload_n X dX6_come_11 rfl 0 rfl rfl ?_
  refine gB_get_VisaPages_history X dX6_come_12 hinX60 hl33 rfl ?_
  refine g_aload_n X dX6_come_15 rfl 0 rfl rfl ?_
  refine gB_get_VisaPages_house X dX6_come_16 hinX60 hl12 rfl ?_
  refine g_iload_n X dX6_come_19 rfl 1 rfl rfl ?_
  refine g_iload_n X dX6_come_20 rfl 2 rfl rfl ?_
  refine g_iload_n X dX6_come_21 rfl 3 rfl rfl ?_
  refine g_aload_n X dX6_come_22 rfl 0 rfl rfl ?_
  refine gB_get_VisaPages_walker X dX6_come_23 hinX60 hl19 rfl ?_
  refine g_callVWq (n := 4) (As := [_, _, _, _]) (rest := [_]) X hAg rfl (c_X2_visit l D _ _ _ _ mk n b hW hNR x y z) gX6_come_X2_visit rfl (by decide +kernel) ⟨Nat.le_of_ble_eq_true rfl, Nat.le_of_ble_eq_true rfl⟩ 0 rfl rfl [0, 1, 2, 3, 4, 5, 6, 7, 8, 9, 10, 11, 12, 13, 14, 15, 16] rfl (by decide) rfl rfl (Nat.le_of_ble_eq_true rfl) dX6_come_26 ⟨Nat.le_of_ble_eq_true rfl, Nat.le_of_ble_eq_true rfl⟩ rfl (fun v w hv => ?_)
  obtain ⟨rfl, nb, n', w', rfl, hN9, h909⟩ := hv
  refine ⟨rfl, ?_⟩
  refine g_ws wB_h ?_
  refine g_st (st' := [_, _]) rfl ?_
  refine g_callVXs (n := 1) (As := [_]) (rest := []) X hAg rfl (c_X1_keepUnlessError l D a (comeS f x y z).2 nb w' td vl L pt fl kd kp (up pq kp (some (b0, f, na))) ps hkp (fun e k hk => HQ_up hq k (by omega)) (comeS f x y z).1) gX6_come_X1_keepUnlessError rfl (by decide +kernel) ⟨Nat.le_of_ble_eq_true rfl, Nat.le_of_ble_eq_true rfl⟩ 21 rfl rfl  rfl rfl (Nat.le_of_ble_eq_true rfl) dX6_come_29 ⟨Nat.le_of_ble_eq_true rfl, Nat.le_of_ble_eq_true rfl⟩ rfl (fun v w hv => ?_)
  obtain ⟨rfl, rfl⟩ := hv
  refine ⟨AD_wB AD_kV, ?_⟩
  refine g_st (st' := [_]) rfl ?_
  refine g_widen 16 340 (Nat.le_of_ble_eq_true rfl) (Nat.le_of_ble_eq_true rfl) ?_
  refine g_retW X hr (by first | rfl | exact b2i_nar _) dX6_come_32 hAe ?_
  exact ⟨rfl, b0, nb, n', w', AD_wB (AD_kV.trans (AD_q (h := (b0, f, na)) (by omega) hb0)), hN9, h909, rfl⟩

set_option maxHeartbeats 4000000 in
set_option maxRecDepth 100000 in
theorem c_X6_flush (l : Launch) (D : DT) (a : Nat → Nat) (f : Nat → Int32) (na : Nat → Nat → Int32) (w td vl : Nat → Int32) (L pt fl : Nat) (kd : Int32) (kp : Nat) (pq ps : Nat → Option HH) (mk n b : Nat) (hW : WF f mk n b) (hNR : NR f na n) (hF : FB f) (hkp : kp ≤ 6) (hq : HQ pq kp) : MW l yX6_flush wsX6_flush 4 93 16 340 D [.ref (a 19)] (wB D a f na w td vl L pt fl kd kp (fqa pq) (fqa ps) (tlW D pq ps)) (chP D a f na w td vl L pt fl kd kp pq ps (flushS f)) := by
  obtain ⟨hmk, h40, hn8, hb0, hb1, hb8, hnb, hst, hno, how, hdo, hs1, hs2, hs3, hZF⟩ := id hW
  have h8 : n ≤ 8 := by omega
  obtain ⟨eN1, eN2, eN3⟩ := hW.N
  refine MW.of (cc := cX6_flush) (maxL := 1) (ret := (some .int)) (lv := [(0, .ref (a 19))]) (by decide +kernel) rfl (Nat.le_of_ble_eq_true rfl) rfl ?_
  intro p e s m below meth c A hAe hAg X hr hmn
  have hinX60 : ∀ w ∈ wsX60, w ∈ wsX6_flush := fun w h => List.mem_cons_of_mem _ (List.mem_append_left _ (List.mem_append_left _ (List.mem_append_left _ (List.mem_append_left _ (List.mem_append_right _ h)))))
  have hinX20 : ∀ w ∈ wsX20, w ∈ wsX6_flush := fun w h => List.mem_cons_of_mem _ (List.mem_append_left _ (List.mem_append_left _ (List.mem_append_left _ (List.mem_append_right _ h))))
  have hinX10 : ∀ w ∈ wsX10, w ∈ wsX6_flush := fun w h => List.mem_cons_of_mem _ (List.mem_append_left _ (List.mem_append_left _ (List.mem_append_right _ h)))
  have hinX40 : ∀ w ∈ wsX40, w ∈ wsX6_flush := fun w h => List.mem_cons_of_mem _ (List.mem_append_left _ (List.mem_append_right _ h))
  have hinX00 : ∀ w ∈ wsX00, w ∈ wsX6_flush := fun w h => List.mem_cons_of_mem _ (List.mem_append_right _ h)
  have hl33 := List.mem_of_getElem? (l := wsX6_flush) (i := 1) rfl
  have hl12 := List.mem_of_getElem? (l := wsX6_flush) (i := 2) rfl
  have hl78 := List.mem_of_getElem? (l := wsX6_flush) (i := 3) rfl
  refine g_aload_n X dX6_flush_0 rfl 0 rfl rfl ?_
  refine gB_get_VisaPages_history X dX6_flush_1 hinX60 hl33 rfl ?_
  refine g_aload_n X dX6_flush_4 rfl 0 rfl rfl ?_
  refine gB_get_VisaPages_house X dX6_flush_5 hinX60 hl12 rfl ?_
  refine g_callVXs (n := 1) (As := [_]) (rest := []) X hAg rfl (c_X1_remember l D a f na w td vl L pt fl kd kp pq ps hF hkp) gX6_flush_X1_remember rfl (by decide +kernel) ⟨Nat.le_of_ble_eq_true rfl, Nat.le_of_ble_eq_true rfl⟩ 21 rfl rfl  rfl rfl (Nat.le_of_ble_eq_true rfl) dX6_flush_8 ⟨Nat.le_of_ble_eq_true rfl, Nat.le_of_ble_eq_true rfl⟩ rfl (fun v w hv => ?_)
  obtain ⟨rfl, b0, hb0, rfl⟩ := hv
  refine ⟨AD_wB (AD_q (h := (b0, f, na)) (by omega) hb0), ?_⟩
  refine g_st (st' := []) rfl ?_
  refine g_aload_n X dX6_flush_11 rfl 0 rfl rfl ?_
  refine gB_get_VisaPages_history X dX6_flush_12 hinX60 hl33 rfl ?_
  refine g_aload_n X dX6_flush_15 rfl 0 rfl rfl ?_
  refine gB_get_VisaPages_house X dX6_flush_16 hinX60 hl12 rfl ?_
  refine gB_get_House_board X dX6_flush_19 hinX20 hl78 rfl ?_
  refine g_aload_n X dX6_flush_22 rfl 0 rfl rfl ?_
  refine gB_get_VisaPages_house X dX6_flush_23 hinX60 hl12 rfl ?_
  refine gB_get_House_board X dX6_flush_26 hinX20 hl78 rfl ?_
  refine g_callVRq (n := 0) (As := []) (rest := [_, _]) X (c_X0_allNotes l D _ _ _ _ n hn8 h8) gX6_flush_X0_allNotes rfl (by decide +kernel) ⟨Nat.le_of_ble_eq_true rfl, Nat.le_of_ble_eq_true rfl⟩ 11 rfl rfl [0, 1, 2, 3, 4, 5, 6, 7, 8, 9, 10, 11, 12, 13, 14, 15, 16] rfl (by decide) rfl rfl (Nat.le_of_ble_eq_true rfl) dX6_flush_29 ⟨Nat.le_of_ble_eq_true rfl, Nat.le_of_ble_eq_true rfl⟩ rfl (fun v hv => ?_)
  obtain rfl := hv
  refine g_st (st' := [_, _, _]) rfl ?_
  refine g_callVWq (n := 1) (As := [_]) (rest := [_]) X hAg rfl (c_X0_wipeThese l D _ _ _ _ n hn8 h8 hNR (fun _ => true)) gX6_flush_X0_wipeThese rfl (by decide +kernel) ⟨Nat.le_of_ble_eq_true rfl, Nat.le_of_ble_eq_true rfl⟩ 11 rfl rfl [0, 1, 2, 3, 4, 5, 6, 7, 8, 9, 10, 11, 12, 13, 14, 15, 16] rfl (by decide) rfl rfl (Nat.le_of_ble_eq_true rfl) dX6_flush_32 ⟨Nat.le_of_ble_eq_true rfl, Nat.le_of_ble_eq_true rfl⟩ rfl (fun v w hv => ?_)
  obtain ⟨rfl, nb, rfl, hN2⟩ := hv
  refine ⟨rfl, ?_⟩
  refine g_ws wB_h ?_
  refine g_st (st' := [_, _]) rfl ?_
  refine g_ws (wB_c91 (wipe_w0 hn8 h8)) ?_
  refine g_topi (y := f 90) (by rw [wipe_n0]; exact hn8.symm) ?_
  refine g_callVXs (n := 1) (As := [_]) (rest := []) X hAg rfl (c_X1_keepUnlessError l D a (wpF f) nb w td vl L pt fl kd kp (up pq kp (some (b0, f, na))) ps hkp (fun e k hk => HQ_up hq k (by omega)) (f 90)) gX6_flush_X1_keepUnlessError rfl (by decide +kernel) ⟨Nat.le_of_ble_eq_true rfl, Nat.le_of_ble_eq_true rfl⟩ 21 rfl rfl  rfl rfl (Nat.le_of_ble_eq_true rfl) dX6_flush_35 ⟨Nat.le_of_ble_eq_true rfl, Nat.le_of_ble_eq_true rfl⟩ rfl (fun v w hv => ?_)
  obtain ⟨rfl, rfl⟩ := hv
  refine ⟨AD_wB AD_kV, ?_⟩
  refine g_st (st' := [_]) rfl ?_
  refine g_widen 16 340 (Nat.le_of_ble_eq_true rfl) (Nat.le_of_ble_eq_true rfl) ?_
  refine g_retW X hr (by first | rfl | exact b2i_nar _) dX6_flush_38 hAe ?_
  exact ⟨rfl, b0, nb, 0, w, AD_wB (AD_kV.trans (AD_q (h := (b0, f, na)) (by omega) hb0)), NR_0 _ _, (by show wpF f 90 = nI 0; unfold wpF; rw [up_n _ _ (by omega), up_s]; rfl), rfl⟩

set_option maxHeartbeats 4000000 in
set_option maxRecDepth 100000 in
theorem c_X6_undo (l : Launch) (D : DT) (a : Nat → Nat) (f : Nat → Int32) (na : Nat → Nat → Int32) (w td vl : Nat → Int32) (L pt fl : Nat) (kd : Int32) (kp : Nat) (pq ps : Nat → Option HH) (hkp : kp ≤ 6) (hq : HQ pq kp) (hFq : ∀ k, k < kp → ∀ h : HH, pq k = some h → FB h.2.1) : MW l yX6_undo wsX6_undo 4 94 0 0 D [.ref (a 19)] (wB D a f na w td vl L pt fl kd kp (fqa pq) (fqa ps) (tlW D pq ps)) (fun v w9 => ∃ r : Int32, v = some (.int r) ∧ ((kp = 0 ∧ r = -5 ∧ w9 = (wB D a f na w td vl L pt fl kd kp (fqa pq) (fqa ps) (tlW D pq ps))) ∨ (0 < kp ∧ r = nI (kp - 1) ∧ ∃ (b : Nat → Nat) (g : Nat → Int32) (nb : Nat → Nat → Int32), pq (kp - 1) = some (b, g, nb) ∧ w9 = (wB D a g nb w td vl L pt fl kd (kp - 1) (fqa pq) (fqa ps) (tlW D pq ps))))) := by
  refine MW.of (cc := cX6_undo) (maxL := 1) (ret := (some .int)) (lv := [(0, .ref (a 19))]) (by decide +kernel) rfl (Nat.le_of_ble_eq_true rfl) rfl ?_
  intro p e s m below meth c A hAe hAg X hr hmn
  have hinX60 : ∀ w ∈ wsX60, w ∈ wsX6_undo := fun w h => List.mem_cons_of_mem _ (List.mem_append_left _ (List.mem_append_left _ (List.mem_append_left _ (List.mem_append_left _ (List.mem_append_right _ h)))))
  have hinX10 : ∀ w ∈ wsX10, w ∈ wsX6_undo := fun w h => List.mem_cons_of_mem _ (List.mem_append_left _ (List.mem_append_left _ (List.mem_append_left _ (List.mem_append_right _ h))))
  have hinX20 : ∀ w ∈ wsX20, w ∈ wsX6_undo := fun w h => List.mem_cons_of_mem _ (List.mem_append_left _ (List.mem_append_left _ (List.mem_append_right _ h)))
  have hinX40 : ∀ w ∈ wsX40, w ∈ wsX6_undo := fun w h => List.mem_cons_of_mem _ (List.mem_append_left _ (List.mem_append_right _ h))
  have hinX00 : ∀ w ∈ wsX00, w ∈ wsX6_undo := fun w h => List.mem_cons_of_mem _ (List.mem_append_right _ h)
  have hl33 := List.mem_of_getElem? (l := wsX6_undo) (i := 1) rfl
  have hl12 := List.mem_of_getElem? (l := wsX6_undo) (i := 2) rfl
  refine g_aload_n X dX6_undo_0 rfl 0 rfl rfl ?_
  refine gB_get_VisaPages_history X dX6_undo_1 hinX60 hl33 rfl ?_
  refine g_aload_n X dX6_undo_4 rfl 0 rfl rfl ?_
  refine gB_get_VisaPages_house X dX6_undo_5 hinX60 hl12 rfl ?_
  refine g_callVXs (n := 1) (As := [_]) (rest := []) X hAg rfl (c_X1_goBack l D a f na w td vl L pt fl kd kp pq ps hkp hq hFq) gX6_undo_X1_goBack rfl (by decide +kernel) ⟨Nat.le_of_ble_eq_true rfl, Nat.le_of_ble_eq_true rfl⟩ 21 rfl rfl  rfl rfl (Nat.le_of_ble_eq_true rfl) dX6_undo_8 ⟨Nat.le_of_ble_eq_true rfl, Nat.le_of_ble_eq_true rfl⟩ rfl (fun v w hv => ?_)
  obtain ⟨r9, rfl, hv⟩ := hv
  refine ⟨(by rcases hv with ⟨-, -, h3⟩ | ⟨-, -, b, g, nb, -, h3⟩ <;> rw [h3] <;> exact AD.rf rfl), ?_⟩
  refine g_st (st' := [_]) rfl ?_
  refine g_retW X hr (by first | rfl | exact b2i_nar _) dX6_undo_11 hAe ?_
  exact ⟨r9, rfl, hv⟩
