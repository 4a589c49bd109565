set_option maxHeartbeats 4000000 in
set_option maxRecDepth 100000 in
theorem c_L_type8 (l : Launch) (D : DT) (a : Nat → Nat) (f : Nat → Int32) (na : Nat → Nat → Int32) (w td vl : Nat → Int32) (L pt fl : Nat) (kd : Int32) (kp : Nat) (fq fs : Nat → Option Nat) (tl : va_W) (lt : List Nat) (hT : HT td lt) (hlen : lt.length = L) (h80 : L + 8 ≤ 80) (c0 c1 c2 c3 c4 c5 c6 c7 : Nat) (a0 : 33 ≤ c0 ∧ c0 ≤ 126) (a1 : 33 ≤ c1 ∧ c1 ≤ 126) (a2 : 33 ≤ c2 ∧ c2 ≤ 126) (a3 : 33 ≤ c3 ∧ c3 ≤ 126) (a4 : 33 ≤ c4 ∧ c4 ≤ 126) (a5 : 33 ≤ c5 ∧ c5 ≤ 126) (a6 : 33 ≤ c6 ∧ c6 ≤ 126) (a7 : 33 ≤ c7 ∧ c7 ≤ 126) : MW l yL_type wsL_type 4 91 0 0 D [.ref (a 19), .int (nI c0), .int (nI c1), .int (nI c2), .int (nI c3), .int (nI c4), .int (nI c5), .int (nI c6), .int (nI c7)] (wB D a f na w td vl L pt fl kd kp fq fs tl) (fun v w2 => v = some (.int 1) ∧ ∃ tdN, HT tdN (lt ++ [c0, c1, c2, c3, c4, c5, c6, c7]) ∧ w2 = wB D a f na w tdN vl (L + 8) pt fl kd kp fq fs tl) := by
  obtain ⟨h1, h2, h3⟩ := HT_8 hT hlen h80 a0 a1 a2 a3 a4 a5 a6 a7
  refine MW.of (cc := cL_type) (maxL := 11) (ret := (some .boolean)) (lv := [(0, .ref (a 19)), (1, .int (nI c0)), (2, .int (nI c1)), (3, .int (nI c2)), (4, .int (nI c3)), (5, .int (nI c4)), (6, .int (nI c5)), (7, .int (nI c6)), (8, .int (nI c7))]) (by decide +kernel) rfl (Nat.le_of_ble_eq_true rfl) rfl ?_
  intro p e s m below meth c A hAe hAg X hr hmn
  refine g_iload_n X dL_type_0 rfl 1 rfl rfl ?_
  refine g_i2l X dL_type_1 rfl rfl ?_
  refine g_topl (i8_l c0 (by omega)) ?_
  refine g_lstore X [(9, _), (0, _), (1, _), (2, _), (3, _), (4, _), (5, _), (6, _), (7, _), (8, _)] dL_type_2 (by decide) rfl rfl ?_
  refine g_iload_n X dL_type_4 rfl 3 rfl rfl ?_
  refine g_if_le X dL_type_5 18 (by decide) rfl (fun h5 => absurd (nj_le (a := c1) (b := 0) (by omega) (by omega) h5) (by omega)) (fun h5 => ?_)
  have i5 := nj_nle (a := c1) (b := 0) (by omega) (by omega) h5
  refine g_lload X dL_type_8 0 rfl rfl ?_
  refine g_bipush (v := (8 : Int32)) X dL_type_10 (by decide) rfl ?_
  refine g_lshl X dL_type_12 rfl rfl ?_
  refine g_iload_n X dL_type_13 rfl 3 rfl rfl ?_
  refine g_i2l X dL_type_14 rfl rfl ?_
  refine g_lor X dL_type_15 rfl ?_
  refine g_topl (or8 (n := c0) (c := c1) (by omega) (by omega)) ?_
  refine g_lstore X [(9, _), (0, _), (1, _), (2, _), (3, _), (4, _), (5, _), (6, _), (7, _), (8, _)] dL_type_16 (by decide) rfl rfl ?_
  refine g_iload_n X dL_type_18 rfl 4 rfl rfl ?_
  refine g_if_le X dL_type_19 32 (by decide) rfl (fun h19 => absurd (nj_le (a := c2) (b := 0) (by omega) (by omega) h19) (by omega)) (fun h19 => ?_)
  have i19 := nj_nle (a := c2) (b := 0) (by omega) (by omega) h19
  refine g_lload X dL_type_22 0 rfl rfl ?_
  refine g_bipush (v := (8 : Int32)) X dL_type_24 (by decide) rfl ?_
  refine g_lshl X dL_type_26 rfl rfl ?_
  refine g_iload_n X dL_type_27 rfl 4 rfl rfl ?_
  refine g_i2l X dL_type_28 rfl rfl ?_
  refine g_lor X dL_type_29 rfl ?_
  refine g_topl (or8 (n := (c0 * 256 + c1)) (c := c2) (by omega) (by omega)) ?_
  refine g_lstore X [(9, _), (0, _), (1, _), (2, _), (3, _), (4, _), (5, _), (6, _), (7, _), (8, _)] dL_type_30 (by decide) rfl rfl ?_
  refine g_iload X dL_type_32 5 rfl rfl ?_
  refine g_if_le X dL_type_34 48 (by decide) rfl (fun h34 => absurd (nj_le (a := c3) (b := 0) (by omega) (by omega) h34) (by omega)) (fun h34 => ?_)
  have i34 := nj_nle (a := c3) (b := 0) (by omega) (by omega) h34
  refine g_lload X dL_type_37 0 rfl rfl ?_
  refine g_bipush (v := (8 : Int32)) X dL_type_39 (by decide) rfl ?_
  refine g_lshl X dL_type_41 rfl rfl ?_
  refine g_iload X dL_type_42 5 rfl rfl ?_
  refine g_i2l X dL_type_44 rfl rfl ?_
  refine g_lor X dL_type_45 rfl ?_
  refine g_topl (or8 (n := ((c0 * 256 + c1) * 256 + c2)) (c := c3) (by omega) (by omega)) ?_
  refine g_lstore X [(9, _), (0, _), (1, _), (2, _), (3, _), (4, _), (5, _), (6, _), (7, _), (8, _)] dL_type_46 (by decide) rfl rfl ?_
  refine g_iload X dL_type_48 6 rfl rfl ?_
  refine g_if_le X dL_type_50 64 (by decide) rfl (fun h50 => absurd (nj_le (a := c4) (b := 0) (by omega) (by omega) h50) (by omega)) (fun h50 => ?_)
  have i50 := nj_nle (a := c4) (b := 0) (by omega) (by omega) h50
  refine g_lload X dL_type_53 0 rfl rfl ?_
  refine g_bipush (v := (8 : Int32)) X dL_type_55 (by decide) rfl ?_
  refine g_lshl X dL_type_57 rfl rfl ?_
  refine g_iload X dL_type_58 6 rfl rfl ?_
  refine g_i2l X dL_type_60 rfl rfl ?_
  refine g_lor X dL_type_61 rfl ?_
  refine g_topl (or8 (n := (((c0 * 256 + c1) * 256 + c2) * 256 + c3)) (c := c4) (by omega) (by omega)) ?_
  refine g_lstore X [(9, _), (0, _), (1, _), (2, _), (3, _), (4, _), (5, _), (6, _), (7, _), (8, _)] dL_type_62 (by decide) rfl rfl ?_
  refine g_iload X dL_type_64 7 rfl rfl ?_
  refine g_if_le X dL_type_66 80 (by decide) rfl (fun h66 => absurd (nj_le (a := c5) (b := 0) (by omega) (by omega) h66) (by omega)) (fun h66 => ?_)
  have i66 := nj_nle (a := c5) (b := 0) (by omega) (by omega) h66
  refine g_lload X dL_type_69 0 rfl rfl ?_
  refine g_bipush (v := (8 : Int32)) X dL_type_71 (by decide) rfl ?_
  refine g_lshl X dL_type_73 rfl rfl ?_
  refine g_iload X dL_type_74 7 rfl rfl ?_
  refine g_i2l X dL_type_76 rfl rfl ?_
  refine g_lor X dL_type_77 rfl ?_
  refine g_topl (or8 (n := ((((c0 * 256 + c1) * 256 + c2) * 256 + c3) * 256 + c4)) (c := c5) (by omega) (by omega)) ?_
  refine g_lstore X [(9, _), (0, _), (1, _), (2, _), (3, _), (4, _), (5, _), (6, _), (7, _), (8, _)] dL_type_78 (by decide) rfl rfl ?_
  refine g_iload X dL_type_80 8 rfl rfl ?_
  refine g_if_le X dL_type_82 96 (by decide) rfl (fun h82 => absurd (nj_le (a := c6) (b := 0) (by omega) (by omega) h82) (by omega)) (fun h82 => ?_)
  have i82 := nj_nle (a := c6) (b := 0) (by omega) (by omega) h82
  refine g_lload X dL_type_85 0 rfl rfl ?_
  refine g_bipush (v := (8 : Int32)) X dL_type_87 (by decide) rfl ?_
  refine g_lshl X dL_type_89 rfl rfl ?_
  refine g_iload X dL_type_90 8 rfl rfl ?_
  refine g_i2l X dL_type_92 rfl rfl ?_
  refine g_lor X dL_type_93 rfl ?_
  refine g_topl (or8 (n := (((((c0 * 256 + c1) * 256 + c2) * 256 + c3) * 256 + c4) * 256 + c5)) (c := c6) (by omega) (by omega)) ?_
  refine g_lstore X [(9, _), (0, _), (1, _), (2, _), (3, _), (4, _), (5, _), (6, _), (7, _), (8, _)] dL_type_94 (by decide) rfl rfl ?_
  refine g_iload X dL_type_96 9 rfl rfl ?_
  refine g_if_le X dL_type_98 112 (by decide) rfl (fun h98 => absurd (nj_le (a := c7) (b := 0) (by omega) (by omega) h98) (by omega)) (fun h98 => ?_)
  have i98 := nj_nle (a := c7) (b := 0) (by omega) (by omega) h98
  refine g_lload X dL_type_101 0 rfl rfl ?_
  refine g_bipush (v := (8 : Int32)) X dL_type_103 (by decide) rfl ?_
  refine g_lshl X dL_type_105 rfl rfl ?_
  refine g_iload X dL_type_106 9 rfl rfl ?_
  refine g_i2l X dL_type_108 rfl rfl ?_
  refine g_lor X dL_type_109 rfl ?_
  refine g_topl (or8 (n := ((((((c0 * 256 + c1) * 256 + c2) * 256 + c3) * 256 + c4) * 256 + c5) * 256 + c6)) (c := c7) (by omega) (by omega)) ?_
  refine g_lstore X [(9, _), (0, _), (1, _), (2, _), (3, _), (4, _), (5, _), (6, _), (7, _), (8, _)] dL_type_110 (by decide) rfl rfl ?_
  refine g_aload_n X dL_type_112 rfl 1 rfl rfl ?_
  refine g_lload X dL_type_113 0 rfl rfl ?_
  refine g_callVXs (n := 1) (As := [_]) (rest := []) X hAg rfl (c_X6_put l D a f na w td vl L pt fl kd kp fq fs tl (by omega) (((((((c0 * 256 + c1) * 256 + c2) * 256 + c3) * 256 + c4) * 256 + c5) * 256 + c6) * 256 + c7) (by omega)) gL_type_X6_put rfl (by decide +kernel) ⟨Nat.le_of_ble_eq_true rfl, Nat.le_of_ble_eq_true rfl⟩ 20 rfl rfl rfl rfl (Nat.le_of_ble_eq_true rfl) dL_type_115 ⟨Nat.le_of_ble_eq_true rfl, Nat.le_of_ble_eq_true rfl⟩ rfl (fun v w9 hv => ?_)
  obtain ⟨rfl, rfl⟩ := hv
  refine ⟨AD.rf rfl, ?_⟩
  refine g_st (st' := [_]) rfl ?_
  refine g_topi (h3) ?_
  refine g_if_le X dL_type_118 125 (by decide) rfl (fun h118 => absurd (nj_le (a := (L + 8)) (b := 0) (by omega) (by omega) h118) (by omega)) (fun h118 => ?_)
  have i118 := nj_nle (a := (L + 8)) (b := 0) (by omega) (by omega) h118
  refine g_iconst (v := (1 : Int32)) X dL_type_121 (by decide) rfl ?_
  refine g_goto X dL_type_122 126 (by decide) ?_
  refine g_retW X hr (by first | rfl | exact b2i_nar _) dL_type_126 hAe ?_
  exact ⟨rfl, _, h1, by rw [h2]⟩

set_option maxHeartbeats 4000000 in
set_option maxRecDepth 100000 in
theorem c_L_type4 (l : Launch) (D : DT) (a : Nat → Nat) (f : Nat → Int32) (na : Nat → Nat → Int32) (w td vl : Nat → Int32) (L pt fl : Nat) (kd : Int32) (kp : Nat) (fq fs : Nat → Option Nat) (tl : va_W) (lt : List Nat) (hT : HT td lt) (hlen : lt.length = L) (h80 : L + 4 ≤ 80) (c0 c1 c2 c3 : Nat) (a0 : 33 ≤ c0 ∧ c0 ≤ 126) (a1 : 33 ≤ c1 ∧ c1 ≤ 126) (a2 : 33 ≤ c2 ∧ c2 ≤ 126) (a3 : 33 ≤ c3 ∧ c3 ≤ 126) : MW l yL_type wsL_type 4 91 0 0 D [.ref (a 19), .int (nI c0), .int (nI c1), .int (nI c2), .int (nI c3), .int (0), .int (0), .int (0), .int (0)] (wB D a f na w td vl L pt fl kd kp fq fs tl) (fun v w2 => v = some (.int 1) ∧ ∃ tdN, HT tdN (lt ++ [c0, c1, c2, c3]) ∧ w2 = wB D a f na w tdN vl (L + 4) pt fl kd kp fq fs tl) := by
  obtain ⟨h1, h2, h3⟩ := HT_4 hT hlen h80 a0 a1 a2 a3
  refine MW.of (cc := cL_type) (maxL := 11) (ret := (some .boolean)) (lv := [(0, .ref (a 19)), (1, .int (nI c0)), (2, .int (nI c1)), (3, .int (nI c2)), (4, .int (nI c3)), (5, .int (0)), (6, .int (0)), (7, .int (0)), (8, .int (0))]) (by decide +kernel) rfl (Nat.le_of_ble_eq_true rfl) rfl ?_
  intro p e s m below meth c A hAe hAg X hr hmn
  refine g_iload_n X dL_type_0 rfl 1 rfl rfl ?_
  refine g_i2l X dL_type_1 rfl rfl ?_
  refine g_topl (i8_l c0 (by omega)) ?_
  refine g_lstore X [(9, _), (0, _), (1, _), (2, _), (3, _), (4, _), (5, _), (6, _), (7, _), (8, _)] dL_type_2 (by decide) rfl rfl ?_
  refine g_iload_n X dL_type_4 rfl 3 rfl rfl ?_
  refine g_if_le X dL_type_5 18 (by decide) rfl (fun h5 => absurd (nj_le (a := c1) (b := 0) (by omega) (by omega) h5) (by omega)) (fun h5 => ?_)
  have i5 := nj_nle (a := c1) (b := 0) (by omega) (by omega) h5
  refine g_lload X dL_type_8 0 rfl rfl ?_
  refine g_bipush (v := (8 : Int32)) X dL_type_10 (by decide) rfl ?_
  refine g_lshl X dL_type_12 rfl rfl ?_
  refine g_iload_n X dL_type_13 rfl 3 rfl rfl ?_
  refine g_i2l X dL_type_14 rfl rfl ?_
  refine g_lor X dL_type_15 rfl ?_
  refine g_topl (or8 (n := c0) (c := c1) (by omega) (by omega)) ?_
  refine g_lstore X [(9, _), (0, _), (1, _), (2, _), (3, _), (4, _), (5, _), (6, _), (7, _), (8, _)] dL_type_16 (by decide) rfl rfl ?_
  refine g_iload_n X dL_type_18 rfl 4 rfl rfl ?_
  refine g_if_le X dL_type_19 32 (by decide) rfl (fun h19 => absurd (nj_le (a := c2) (b := 0) (by omega) (by omega) h19) (by omega)) (fun h19 => ?_)
  have i19 := nj_nle (a := c2) (b := 0) (by omega) (by omega) h19
  refine g_lload X dL_type_22 0 rfl rfl ?_
  refine g_bipush (v := (8 : Int32)) X dL_type_24 (by decide) rfl ?_
  refine g_lshl X dL_type_26 rfl rfl ?_
  refine g_iload_n X dL_type_27 rfl 4 rfl rfl ?_
  refine g_i2l X dL_type_28 rfl rfl ?_
  refine g_lor X dL_type_29 rfl ?_
  refine g_topl (or8 (n := (c0 * 256 + c1)) (c := c2) (by omega) (by omega)) ?_
  refine g_lstore X [(9, _), (0, _), (1, _), (2, _), (3, _), (4, _), (5, _), (6, _), (7, _), (8, _)] dL_type_30 (by decide) rfl rfl ?_
  refine g_iload X dL_type_32 5 rfl rfl ?_
  refine g_if_le X dL_type_34 48 (by decide) rfl (fun h34 => absurd (nj_le (a := c3) (b := 0) (by omega) (by omega) h34) (by omega)) (fun h34 => ?_)
  have i34 := nj_nle (a := c3) (b := 0) (by omega) (by omega) h34
  refine g_lload X dL_type_37 0 rfl rfl ?_
  refine g_bipush (v := (8 : Int32)) X dL_type_39 (by decide) rfl ?_
  refine g_lshl X dL_type_41 rfl rfl ?_
  refine g_iload X dL_type_42 5 rfl rfl ?_
  refine g_i2l X dL_type_44 rfl rfl ?_
  refine g_lor X dL_type_45 rfl ?_
  refine g_topl (or8 (n := ((c0 * 256 + c1) * 256 + c2)) (c := c3) (by omega) (by omega)) ?_
  refine g_lstore X [(9, _), (0, _), (1, _), (2, _), (3, _), (4, _), (5, _), (6, _), (7, _), (8, _)] dL_type_46 (by decide) rfl rfl ?_
  refine g_iload X dL_type_48 6 rfl rfl ?_
  refine g_if_le X dL_type_50 64 (by decide) rfl (fun h50 => ?_) (fun h50 => absurd h50 (by decide))
  refine g_iload X dL_type_64 7 rfl rfl ?_
  refine g_if_le X dL_type_66 80 (by decide) rfl (fun h66 => ?_) (fun h66 => absurd h66 (by decide))
  refine g_iload X dL_type_80 8 rfl rfl ?_
  refine g_if_le X dL_type_82 96 (by decide) rfl (fun h82 => ?_) (fun h82 => absurd h82 (by decide))
  refine g_iload X dL_type_96 9 rfl rfl ?_
  refine g_if_le X dL_type_98 112 (by decide) rfl (fun h98 => ?_) (fun h98 => absurd h98 (by decide))
  refine g_aload_n X dL_type_112 rfl 1 rfl rfl ?_
  refine g_lload X dL_type_113 0 rfl rfl ?_
  refine g_callVXs (n := 1) (As := [_]) (rest := []) X hAg rfl (c_X6_put l D a f na w td vl L pt fl kd kp fq fs tl (by omega) (((c0 * 256 + c1) * 256 + c2) * 256 + c3) (by omega)) gL_type_X6_put rfl (by decide +kernel) ⟨Nat.le_of_ble_eq_true rfl, Nat.le_of_ble_eq_true rfl⟩ 20 rfl rfl rfl rfl (Nat.le_of_ble_eq_true rfl) dL_type_115 ⟨Nat.le_of_ble_eq_true rfl, Nat.le_of_ble_eq_true rfl⟩ rfl (fun v w9 hv => ?_)
  obtain ⟨rfl, rfl⟩ := hv
  refine ⟨AD.rf rfl, ?_⟩
  refine g_st (st' := [_]) rfl ?_
  refine g_topi (h3) ?_
  refine g_if_le X dL_type_118 125 (by decide) rfl (fun h118 => absurd (nj_le (a := (L + 4)) (b := 0) (by omega) (by omega) h118) (by omega)) (fun h118 => ?_)
  have i118 := nj_nle (a := (L + 4)) (b := 0) (by omega) (by omega) h118
  refine g_iconst (v := (1 : Int32)) X dL_type_121 (by decide) rfl ?_
  refine g_goto X dL_type_122 126 (by decide) ?_
  refine g_retW X hr (by first | rfl | exact b2i_nar _) dL_type_126 hAe ?_
  exact ⟨rfl, _, h1, by rw [h2]⟩

set_option maxHeartbeats 4000000 in
set_option maxRecDepth 100000 in
theorem c_text_b (l : Launch) (D : DT) (a : Nat → Nat) (f : Nat → Int32) (na : Nat → Nat → Int32) (w td0 vl0 : Nat → Int32) (L0 pt0 fl0 : Nat) (kd0 : Int32) (kp : Nat) (pq ps : Nat → Option HH) (mk n b : Nat) (hW : WF f mk n b) (hNR : NR f na n) (hF : FB f) (hkp : kp ≤ 6) (l9 : List (Nat → Int32)) (hHL : HL kp pq l9) (cr : Nat) (hcr : cr ≤ 1000) (hS : SI cr f) (x y : Int32) (td vl : Nat → Int32) (pt fl : Nat) (kd : Int32) (u3 u12 u23 u35 u44 u54 u66 u77 u88 wk e9 ec : Nat) (hu3 : u3 < 10) (hu12 : u12 < 6) (hu23 : u23 < 6) (hu35 : u35 < 7) (hu44 : u44 < 10) (hu54 : u54 < 6) (hu66 : u66 < 7) (hu77 : u77 < 3) (hu88 : u88 < 10) (hwk : wk + 1 = e9) (he9 : (ec = 114 ∧ e9 = 1) ∨ (ec = 119 ∧ e9 = 2)) (hT : HT td (txC u3 u12 u23 (1 + u35) u44 u54 (1 + u66) u77 u88 ec)) {p : Program} {e : Env} {s : State} {m : MethodId} {below : List Frame} {meth : Method} {c : Code} {A : Nat → Prop} (hAe : A = va_A (wB D a f na w td0 vl0 L0 pt0 fl0 kd0 kp (fqa pq) (fqa ps) (tlW D pq ps)) s.heap.size) (hAg : ∀ q, s.heap.size ≤ q → A q) (X : GX p l e (wRoom 8 179 112 2380) s m ([.ref (a 19), .int (x), .int (y)] : List Value).toArray below meth c D A 20 cL_text yL_text.cls wsL_text) (hr : meth.sig.returnType = (some .boolean))  : GG p l e (wRoom 8 179 112 2380) s m ([.ref (a 19), .int (x), .int (y)] : List Value).toArray below meth c D A 20 false 0 0 (MQ below (wrQ D (wB D a f na w td0 vl0 L0 pt0 fl0 kd0 kp (fqa pq) (fqa ps) (tlW D pq ps)) s.heap.size (lwP D a ps (wB D a f na w td0 vl0 L0 pt0 fl0 kd0 kp (fqa pq) (fqa ps) (tlW D pq ps)) (cr + 1))) ([.ref (a 19), .int (x), .int (y)] : List Value).toArray s 112 2380 (va_A (wB D a f na w td0 vl0 L0 pt0 fl0 kd0 kp (fqa pq) (fqa ps) (tlW D pq ps)) s.heap.size)) (wB D a f na w td vl 36 pt fl kd kp (fqa pq) (fqa ps) (tlW D pq ps)) 291 [(12, .int (nI wk)), (11, .int (nI u88)), (10, .int (nI u77)), (9, .int (nI (1 + u66))), (8, .int (nI u54)), (7, .int (nI u44)), (6, .int (nI (1 + u35))), (5, .int (nI u23)), (4, .int (nI u12)), (3, .int (nI u3)), (0, .ref (a 19)), (1, .int (x)), (2, .int (y))] [] := by
  obtain ⟨hmk, hm40, hn8, hb0, hb01, hb08, hn8b, hst, hno, how, hdo, hb0a, hb0c, hb0d, hb0z⟩ := id hW
  have hm8 : n ≤ 8 := by omega
  obtain ⟨eN1, eN2, -⟩ := hW.N
  have hall : ∀ z ∈ txC u3 u12 u23 (1 + u35) u44 u54 (1 + u66) u77 u88 ec, z < 256 := by
    intro z hz
    unfold txC at hz
    simp only [List.cons_append, List.nil_append, List.mem_cons, List.not_mem_nil, or_false] at hz
    omega
  have hch : ∀ k, k < 36 → ∃ ch : Nat, ch < 256 ∧ td k = nI ch := fun k hk => HT_ch hT hall k hk
  have htx := tx_eq hT hu3 hu12 hu23 (by omega) hu44 hu54 (by omega) hu77 hu88 he9
  have h0AD : AD (wB D a f na w td vl 36 pt fl kd kp (fqa pq) (fqa ps) (tlW D pq ps)) (wB D a f na w td0 vl0 L0 pt0 fl0 kd0 kp (fqa pq) (fqa ps) (tlW D pq ps)) := AD.rf rfl
  refine g_aload_n X dL_text_291 rfl 10 rfl rfl ?_
  refine g_callSRX (w0 := []) (n := 1) (As := [_]) (rest := []) X (c_L_print l D a f na w td vl 36 pt fl kd kp (fqa pq) (fqa ps) (tlW D pq ps) mk n b hW hNR) gL_text_L_print rfl (by decide +kernel) ⟨Nat.le_of_ble_eq_true rfl, Nat.le_of_ble_eq_true rfl⟩ rfl rfl rfl (Nat.le_of_ble_eq_true rfl) dL_text_292 ⟨Nat.le_of_ble_eq_true rfl, Nat.le_of_ble_eq_true rfl⟩ rfl (fun v hv => ?_)
  obtain rfl := hv
  refine g_st (st' := [_]) rfl ?_
  refine g_lstore X [(13, _), (12, _), (11, _), (10, _), (9, _), (8, _), (7, _), (6, _), (5, _), (4, _), (3, _), (0, _), (1, _), (2, _)] dL_text_295 (by decide) rfl rfl ?_
  refine g_aload_n X dL_text_297 rfl 11 rfl rfl ?_
  refine g_callVXs (n := 0) (As := []) (rest := []) X hAg rfl (c_X6_carryOut l D a f na w td vl 36 pt fl kd kp pq ps mk n b hW hNR hF hkp hHL.hq (by omega) hch) gL_text_X6_carryOut rfl (by decide +kernel) ⟨Nat.le_of_ble_eq_true rfl, Nat.le_of_ble_eq_true rfl⟩ 20 rfl rfl rfl rfl (Nat.le_of_ble_eq_true rfl) dL_text_298 ⟨Nat.le_of_ble_eq_true rfl, Nat.le_of_ble_eq_true rfl⟩ rfl (fun v w9 hv => ?_)
  obtain ⟨hAC, hv⟩ := hv
  rcases hv with ⟨hnv, -⟩ | ⟨-, f9, v9, b0, nbC, w2, vl2, p2, fl2, kd2, rfl, hc80, hNC, rfl⟩
  · exact absurd (htx.1 _ _) hnv
  have hWxC : WFx (cyI td 36 80 0 0 f9 v9 f).2 := cy_ok _ _ _ _ _ _ ⟨mk, n, b, hW⟩
  have hFxC : FB (cyI td 36 80 0 0 f9 v9 f).2 := cy_fb _ _ _ _ _ _ ⟨mk, n, b, hW⟩ hF
  rw [htx.2 f9 v9 f] at hAC hc80 hNC hWxC hFxC ⊢
  obtain ⟨mny, hmny⟩ : ∃ z, (txI (txL u3 u12 u23 (1 + u35) u44 u54 (1 + u66) u77 u88 e9) 0 f).1 = z := ⟨_, rfl⟩
  obtain ⟨fC, hfC⟩ : ∃ z, (txI (txL u3 u12 u23 (1 + u35) u44 u54 (1 + u66) u77 u88 e9) 0 f).2 = z := ⟨_, rfl⟩
  rw [hmny] at hAC hc80 ⊢
  rw [hfC] at hAC hNC hWxC hFxC ⊢
  obtain ⟨kpC, pqC, ekC, epC, hkpC, hHLC⟩ := co_hist (b0 := b0) (nI_ge0 (n := mny) (by omega)) hHL hkp hF ⟨n, hNR, hn8⟩
  rw [ekC, epC] at hAC ⊢
  refine ⟨hAC, ?_⟩
  refine g_st (st' := [_]) rfl ?_
  obtain ⟨mkC, nC, bC, hWC⟩ := hWxC
  have hNRC := hNC.to hWC
  have hADC := hAC.trans h0AD
  obtain ⟨hmkC, hm40C, hn8C, hb0C, hb0C1, hb0C8, hn8Cb, hstC, hnoC, howC, hdoC, hb0Ca, hb0Cc, hb0Cd, hb0Cz⟩ := id hWC
  have hm8C : nC ≤ 8 := by omega
  obtain ⟨eN1C, eN2C, -⟩ := hWC.N
  refine g_istore X [(15, _), (13, _), (12, _), (11, _), (10, _), (9, _), (8, _), (7, _), (6, _), (5, _), (4, _), (3, _), (0, _), (1, _), (2, _)] dL_text_301 (by decide) rfl rfl ?_
  refine g_iload X dL_text_303 0 rfl rfl ?_
  refine g_if_lt X dL_text_305 317 (by decide) rfl (fun h305 => absurd h305 (nI_pos (by omega))) (fun h305 => ?_)
  have i305 := nj_nlt (a := mny) (b := 0) (by omega) (by omega) h305
  refine g_aload_n X dL_text_308 rfl 12 rfl rfl ?_
  refine g_bipush (v := (13 : Int32)) X dL_text_309 (by decide) rfl ?_
  refine g_callVRX (w0 := []) (n := 1) (As := [_]) (rest := []) X (c_X6_count l D a fC nbC w2 td vl2 0 p2 fl2 kd2 kpC (fqa pqC) (fqa ps) (tlW D pqC ps) mkC nC bC hWC hNRC _) gL_text_X6_count rfl (by decide +kernel) ⟨Nat.le_of_ble_eq_true rfl, Nat.le_of_ble_eq_true rfl⟩ 20 rfl rfl rfl rfl rfl (Nat.le_of_ble_eq_true rfl) dL_text_311 ⟨Nat.le_of_ble_eq_true rfl, Nat.le_of_ble_eq_true rfl⟩ rfl (fun v hv => ?_)
  obtain rfl := hv
  refine g_st (st' := [_]) rfl ?_
  refine g_topi (oC13) ?_
  refine g_if_eq X dL_text_314 319 (by decide) rfl (fun h314 => ?_) (fun h314 => absurd rfl h314)
  refine g_aload_n X dL_text_319 rfl 12 rfl rfl ?_
  refine g_callSRX (w0 := []) (n := 1) (As := [_]) (rest := []) X (c_L_print l D a fC nbC w2 td vl2 0 p2 fl2 kd2 kpC (fqa pqC) (fqa ps) (tlW D pqC ps) mkC nC bC hWC hNRC) gL_text_L_print rfl (by decide +kernel) ⟨Nat.le_of_ble_eq_true rfl, Nat.le_of_ble_eq_true rfl⟩ rfl rfl rfl (Nat.le_of_ble_eq_true rfl) dL_text_320 ⟨Nat.le_of_ble_eq_true rfl, Nat.le_of_ble_eq_true rfl⟩ rfl (fun v hv => ?_)
  obtain rfl := hv
  refine g_st (st' := [_]) rfl ?_
  refine g_lstore X [(16, _), (15, _), (13, _), (12, _), (11, _), (10, _), (9, _), (8, _), (7, _), (6, _), (5, _), (4, _), (3, _), (0, _), (1, _), (2, _)] dL_text_323 (by decide) rfl rfl ?_
  refine g_aload_n X dL_text_325 rfl 13 rfl rfl ?_
  refine g_callVXs (n := 0) (As := []) (rest := []) X hAg rfl (c_X6_undo l D a fC nbC w2 td vl2 0 p2 fl2 kd2 kpC pqC ps hkpC hHLC.hq hHLC.fb) gL_text_X6_undo rfl (by decide +kernel) ⟨Nat.le_of_ble_eq_true rfl, Nat.le_of_ble_eq_true rfl⟩ 20 rfl rfl rfl rfl (Nat.le_of_ble_eq_true rfl) dL_text_326 ⟨Nat.le_of_ble_eq_true rfl, Nat.le_of_ble_eq_true rfl⟩ rfl (fun v w9 hv => ?_)
  obtain ⟨r9, rfl, hv⟩ := hv
  obtain ⟨hk1, hpp, hHLU⟩ := hHLC.pop
  rcases hv with ⟨hk0, -, -⟩ | ⟨-, rfl, bU, gU, nbU, hpU, rfl⟩
  · omega
  obtain ⟨eg, hNU, -⟩ := hpp _ _ _ hpU
  replace eg := eg.symm
  subst eg
  refine ⟨AD.rf rfl, ?_⟩
  refine g_st (st' := [_]) rfl ?_
  have hNRU := hNU.to hW
  have hkU : kpC - 1 ≤ 6 := by omega
  have hADU : AD (wB D a f nbU w2 td vl2 0 p2 fl2 kd2 (kpC - 1) (fqa pqC) (fqa ps) (tlW D pqC ps)) (wB D a f na w td0 vl0 L0 pt0 fl0 kd0 kp (fqa pq) (fqa ps) (tlW D pq ps)) := AD.trans (v := wB D a fC nbC w2 td vl2 0 p2 fl2 kd2 kpC (fqa pqC) (fqa ps) (tlW D pqC ps)) (AD.rf rfl) hADC
  refine g_if_lt X dL_text_329 342 (by decide) rfl (fun h329 => absurd h329 (nI_pos (by omega))) (fun h329 => ?_)
  have i329 := nj_nlt (a := (kpC - 1)) (b := 0) (by omega) (by omega) h329
  refine g_aload_n X dL_text_332 rfl 13 rfl rfl ?_
  refine g_callSRX (w0 := []) (n := 1) (As := [_]) (rest := []) X (c_L_print l D a f nbU w2 td vl2 0 p2 fl2 kd2 (kpC - 1) (fqa pqC) (fqa ps) (tlW D pqC ps) mk n b hW hNRU) gL_text_L_print rfl (by decide +kernel) ⟨Nat.le_of_ble_eq_true rfl, Nat.le_of_ble_eq_true rfl⟩ rfl rfl rfl (Nat.le_of_ble_eq_true rfl) dL_text_333 ⟨Nat.le_of_ble_eq_true rfl, Nat.le_of_ble_eq_true rfl⟩ rfl (fun v hv => ?_)
  obtain rfl := hv
  refine g_st (st' := [_]) rfl ?_
  refine g_lload X dL_text_336 2 rfl rfl ?_
  refine g_lcmp X dL_text_338 rfl ?_
  refine g_if_eq X dL_text_339 344 (by decide) rfl (fun h339 => ?_) (fun h339 => absurd (lg_self _) h339)
  refine g_iconst (v := (0 : Int32)) X dL_text_344 (by decide) rfl ?_
  refine g_istore X [(18, _), (16, _), (15, _), (13, _), (12, _), (11, _), (10, _), (9, _), (8, _), (7, _), (6, _), (5, _), (4, _), (3, _), (0, _), (1, _), (2, _)] dL_text_345 (by decide) rfl rfl ?_
  refine g_aload_n X dL_text_347 rfl 14 rfl rfl ?_
  refine g_iload_n X dL_text_348 rfl 13 rfl rfl ?_
  refine g_iload X dL_text_349 12 rfl rfl ?_
  refine g_callVXs (n := 2) (As := [_, _]) (rest := []) X hAg rfl (c_X6_own l D a f nbU w2 td vl2 0 p2 fl2 kd2 (kpC - 1) pqC ps mk n b hW hNRU hF hkU hHLU.hq _ _) gL_text_X6_own rfl (by decide +kernel) ⟨Nat.le_of_ble_eq_true rfl, Nat.le_of_ble_eq_true rfl⟩ 20 rfl rfl rfl rfl (Nat.le_of_ble_eq_true rfl) dL_text_351 ⟨Nat.le_of_ble_eq_true rfl, Nat.le_of_ble_eq_true rfl⟩ rfl (fun v w9 hv => ?_)
  obtain ⟨rfl, fP, naP, wP, kpP, pqP, efP, hNP, hAP, hkpP, hHLP, ekP, rfl⟩ := ch_out hv hkU hHLU hF ⟨_, hNRU, hn8⟩
  have hADP := hAP.trans hADU
  refine ⟨hAP, ?_⟩
  refine g_st (st' := [_]) rfl ?_
  obtain ⟨mkP, nP, bP, hWP⟩ : WFx fP := by rw [efP]; exact own_ok ⟨mk, n, b, hW⟩
  have hSP : SI cr fP := by rw [efP]; exact own_si hW hS (by omega) hu12
  have hNRP := hNP.to hWP
  have hFP : FB fP := by rw [efP]; exact own_fb ⟨mk, n, b, hW⟩ hF
  obtain ⟨hmkP, hm40P, hn8P, hb0P, hb0P1, hb0P8, hn8Pb, hstP, hnoP, howP, hdoP, hb0Pa, hb0Pc, hb0Pd, hb0Pz⟩ := id hWP
  have hm8P : nP ≤ 8 := by omega
  obtain ⟨eN1P, eN2P, -⟩ := hWP.N
  refine g_if_lt X dL_text_354 361 (by decide) rfl (fun h354 => ?_) (fun h354 => ?_)
  · refine g_iconst (v := (0 : Int32)) X dL_text_361 (by decide) rfl ?_
    refine g_istore X [(19, _), (18, _), (16, _), (15, _), (13, _), (12, _), (11, _), (10, _), (9, _), (8, _), (7, _), (6, _), (5, _), (4, _), (3, _), (0, _), (1, _), (2, _)] dL_text_362 (by decide) rfl rfl ?_
    refine g_iload X dL_text_364 0 rfl rfl ?_
    refine g_if_eq X dL_text_366 372 (by decide) rfl (fun h366 => ?_) (fun h366 => absurd h366 (by decide))
    refine g_iload X dL_text_372 0 rfl rfl ?_
    refine g_if_eq X dL_text_374 395 (by decide) rfl (fun h374 => ?_) (fun h374 => absurd h374 (by decide))
    refine g_iconst (v := (0 : Int32)) X dL_text_395 (by decide) rfl ?_
    refine g_istore X [(19, _), (18, _), (16, _), (15, _), (13, _), (12, _), (11, _), (10, _), (9, _), (8, _), (7, _), (6, _), (5, _), (4, _), (3, _), (0, _), (1, _), (2, _)] dL_text_396 (by decide) rfl rfl ?_
    refine g_iload X dL_text_398 0 rfl rfl ?_
    refine g_if_eq X dL_text_400 406 (by decide) rfl (fun h400 => ?_) (fun h400 => absurd h400 (by decide))
    refine g_iload X dL_text_406 0 rfl rfl ?_
    refine g_if_eq X dL_text_408 428 (by decide) rfl (fun h408 => ?_) (fun h408 => absurd h408 (by decide))
    refine g_iconst (v := (0 : Int32)) X dL_text_428 (by decide) rfl ?_
    refine g_istore X [(19, _), (18, _), (16, _), (15, _), (13, _), (12, _), (11, _), (10, _), (9, _), (8, _), (7, _), (6, _), (5, _), (4, _), (3, _), (0, _), (1, _), (2, _)] dL_text_429 (by decide) rfl rfl ?_
    refine g_iload X dL_text_431 0 rfl rfl ?_
    refine g_if_eq X dL_text_433 439 (by decide) rfl (fun h433 => ?_) (fun h433 => absurd h433 (by decide))
    refine g_iload X dL_text_439 0 rfl rfl ?_
    refine g_if_eq X dL_text_441 461 (by decide) rfl (fun h441 => ?_) (fun h441 => absurd h441 (by decide))
    refine g_iconst (v := (0 : Int32)) X dL_text_461 (by decide) rfl ?_
    refine g_istore X [(19, _), (18, _), (16, _), (15, _), (13, _), (12, _), (11, _), (10, _), (9, _), (8, _), (7, _), (6, _), (5, _), (4, _), (3, _), (0, _), (1, _), (2, _)] dL_text_462 (by decide) rfl rfl ?_
    refine g_iload X dL_text_464 0 rfl rfl ?_
    refine g_if_eq X dL_text_466 472 (by decide) rfl (fun h466 => ?_) (fun h466 => absurd h466 (by decide))
    refine g_iload X dL_text_472 0 rfl rfl ?_
    refine g_if_eq X dL_text_474 502 (by decide) rfl (fun h474 => ?_) (fun h474 => absurd h474 (by decide))
    refine g_iconst (v := (0 : Int32)) X dL_text_502 (by decide) rfl ?_
    refine g_istore X [(19, _), (18, _), (16, _), (15, _), (13, _), (12, _), (11, _), (10, _), (9, _), (8, _), (7, _), (6, _), (5, _), (4, _), (3, _), (0, _), (1, _), (2, _)] dL_text_503 (by decide) rfl rfl ?_
    refine g_iload X dL_text_505 0 rfl rfl ?_
    refine g_if_eq X dL_text_507 513 (by decide) rfl (fun h507 => ?_) (fun h507 => absurd h507 (by decide))
    refine g_iload X dL_text_513 0 rfl rfl ?_
    refine g_if_eq X dL_text_515 531 (by decide) rfl (fun h515 => ?_) (fun h515 => absurd h515 (by decide))
    refine g_iconst (v := (0 : Int32)) X dL_text_531 (by decide) rfl ?_
    refine g_istore X [(19, _), (18, _), (16, _), (15, _), (13, _), (12, _), (11, _), (10, _), (9, _), (8, _), (7, _), (6, _), (5, _), (4, _), (3, _), (0, _), (1, _), (2, _)] dL_text_532 (by decide) rfl rfl ?_
    refine g_iload X dL_text_534 0 rfl rfl ?_
    refine g_if_eq X dL_text_536 542 (by decide) rfl (fun h536 => ?_) (fun h536 => absurd h536 (by decide))
    have etx : txI (txL u3 u12 u23 (1 + u35) u44 u54 (1 + u66) u77 u88 e9) 0 f = (0, fP) := by rw [txL, txI, if_neg (Int32.not_le.mpr h354), ← efP]
    have e1 : mny = 0 := by rw [← hmny, etx]
    have e2 : fC = fP := by rw [← hfC, etx]
    refine g_iload X dL_text_542 1 rfl rfl ?_
    refine g_iload X dL_text_544 3 rfl rfl ?_
    refine g_icmp_ne X dL_text_546 563 (by decide) rfl (fun h546 => absurd (nj_ne (a := 0) (b := mny) (by omega) (by omega) h546) (by omega)) (fun h546 => ?_)
    have i546 := nj_eq (a := 0) (b := mny) (by omega) (by omega) h546
    refine g_aload_n X dL_text_549 rfl 15 rfl rfl ?_
    refine g_callSRX (w0 := []) (n := 1) (As := [_]) (rest := []) X (c_L_print l D a fP naP wP td vl2 0 p2 fl2 kd2 kpP (fqa pqP) (fqa ps) (tlW D pqP ps) mkP nP bP hWP hNRP) gL_text_L_print rfl (by decide +kernel) ⟨Nat.le_of_ble_eq_true rfl, Nat.le_of_ble_eq_true rfl⟩ rfl rfl rfl (Nat.le_of_ble_eq_true rfl) dL_text_550 ⟨Nat.le_of_ble_eq_true rfl, Nat.le_of_ble_eq_true rfl⟩ rfl (fun v hv => ?_)
    obtain rfl := hv
    refine g_st (st' := [_]) rfl ?_
    refine g_lload X dL_text_553 2 rfl rfl ?_
    refine g_topl ((show prS fC = prS fP from by rw [e2])) ?_
    refine g_lcmp X dL_text_555 rfl ?_
    refine g_if_ne X dL_text_556 563 (by decide) rfl (fun h556 => absurd (lg_self _) h556) (fun h556 => ?_)
    refine g_iconst (v := (1 : Int32)) X dL_text_559 (by decide) rfl ?_
    refine g_goto X dL_text_560 564 (by decide) ?_
    refine g_widen 112 2380 (Nat.le_of_ble_eq_true rfl) (Nat.le_of_ble_eq_true rfl) ?_
    refine g_retW X hr (by first | rfl | exact b2i_nar _) dL_text_564 hAe ?_
    exact ⟨rfl, fP, naP, wP, td, vl2, 0, p2, fl2, kd2, kpP, pqP, ⟨⟨_, _, _, hWP⟩, ⟨_, hNRP, hn8P⟩, hFP, (SI_le (Nat.le_succ _) hSP), (Nat.zero_le _), (fun k hk => absurd hk (Nat.not_lt_zero k)), hkpP, _, hHLP⟩, hADP, rfl⟩
  · refine g_iconst (v := (1 : Int32)) X dL_text_357 (by decide) rfl ?_
    refine g_goto X dL_text_358 362 (by decide) ?_
    refine g_istore X [(19, _), (18, _), (16, _), (15, _), (13, _), (12, _), (11, _), (10, _), (9, _), (8, _), (7, _), (6, _), (5, _), (4, _), (3, _), (0, _), (1, _), (2, _)] dL_text_362 (by decide) rfl rfl ?_
    refine g_iload X dL_text_364 0 rfl rfl ?_
    refine g_if_eq X dL_text_366 372 (by decide) rfl (fun h366 => absurd h366 (by decide)) (fun h366 => ?_)
    refine g_iinc (v := nI (0 + 1)) X [(18, _), (19, _), (16, _), (15, _), (13, _), (12, _), (11, _), (10, _), (9, _), (8, _), (7, _), (6, _), (5, _), (4, _), (3, _), (0, _), (1, _), (2, _)] dL_text_369 1 rfl (nI_add 0 1) (by decide) rfl rfl ?_
    refine g_iload X dL_text_372 1 rfl rfl ?_
    refine g_if_eq X dL_text_374 395 (by decide) rfl (fun h374 => absurd h374 (by decide)) (fun h374 => ?_)
    refine g_aload_n X dL_text_377 rfl 15 rfl rfl ?_
    refine g_iload X dL_text_378 13 rfl rfl ?_
    refine g_iload X dL_text_380 12 rfl rfl ?_
    refine g_iload_n X dL_text_382 rfl 14 rfl rfl ?_
    refine g_iload X dL_text_383 11 rfl rfl ?_
    refine g_callVXs (n := 4) (As := [_, _, _, _]) (rest := []) X hAg rfl (c_X6_stamp l D a fP naP wP td vl2 0 p2 fl2 kd2 kpP pqP ps mkP nP bP hWP hNRP hFP hkpP hHLP.hq _ _ _ _) gL_text_X6_stamp rfl (by decide +kernel) ⟨Nat.le_of_ble_eq_true rfl, Nat.le_of_ble_eq_true rfl⟩ 20 rfl rfl rfl rfl (Nat.le_of_ble_eq_true rfl) dL_text_385 ⟨Nat.le_of_ble_eq_true rfl, Nat.le_of_ble_eq_true rfl⟩ rfl (fun v w9 hv => ?_)
    obtain ⟨rfl, fQ, naQ, wQ, kpQ, pqQ, efQ, hNQ, hAQ, hkpQ, hHLQ, ekQ, rfl⟩ := ch_out hv hkpP hHLP hFP ⟨_, hNRP, hn8P⟩
    have hADQ := hAQ.trans hADP
    refine ⟨hAQ, ?_⟩
    refine g_st (st' := [_]) rfl ?_
    obtain ⟨mkQ, nQ, bQ, hWQ⟩ : WFx fQ := by rw [efQ]; exact stamp_ok ⟨mkP, nP, bP, hWP⟩
    have hSQ : SI cr fQ := by rw [efQ]; exact stamp_si hWP hSP hu12 hu23 (by omega) (by omega)
    have hNRQ := hNQ.to hWQ
    have hFQ : FB fQ := by rw [efQ]; exact stamp_fb  hFP
    obtain ⟨hmkQ, hm40Q, hn8Q, hb0Q, hb0Q1, hb0Q8, hn8Qb, hstQ, hnoQ, howQ, hdoQ, hb0Qa, hb0Qc, hb0Qd, hb0Qz⟩ := id hWQ
    have hm8Q : nQ ≤ 8 := by omega
    obtain ⟨eN1Q, eN2Q, -⟩ := hWQ.N
    refine g_if_lt X dL_text_388 395 (by decide) rfl (fun h388 => ?_) (fun h388 => ?_)
    · refine g_iconst (v := (0 : Int32)) X dL_text_395 (by decide) rfl ?_
      refine g_istore X [(19, _), (18, _), (16, _), (15, _), (13, _), (12, _), (11, _), (10, _), (9, _), (8, _), (7, _), (6, _), (5, _), (4, _), (3, _), (0, _), (1, _), (2, _)] dL_text_396 (by decide) rfl rfl ?_
      refine g_iload X dL_text_398 0 rfl rfl ?_
      refine g_if_eq X dL_text_400 406 (by decide) rfl (fun h400 => ?_) (fun h400 => absurd h400 (by decide))
      refine g_iload X dL_text_406 0 rfl rfl ?_
      refine g_if_eq X dL_text_408 428 (by decide) rfl (fun h408 => ?_) (fun h408 => absurd h408 (by decide))
      refine g_iconst (v := (0 : Int32)) X dL_text_428 (by decide) rfl ?_
      refine g_istore X [(19, _), (18, _), (16, _), (15, _), (13, _), (12, _), (11, _), (10, _), (9, _), (8, _), (7, _), (6, _), (5, _), (4, _), (3, _), (0, _), (1, _), (2, _)] dL_text_429 (by decide) rfl rfl ?_
      refine g_iload X dL_text_431 0 rfl rfl ?_
      refine g_if_eq X dL_text_433 439 (by decide) rfl (fun h433 => ?_) (fun h433 => absurd h433 (by decide))
      refine g_iload X dL_text_439 0 rfl rfl ?_
      refine g_if_eq X dL_text_441 461 (by decide) rfl (fun h441 => ?_) (fun h441 => absurd h441 (by decide))
      refine g_iconst (v := (0 : Int32)) X dL_text_461 (by decide) rfl ?_
      refine g_istore X [(19, _), (18, _), (16, _), (15, _), (13, _), (12, _), (11, _), (10, _), (9, _), (8, _), (7, _), (6, _), (5, _), (4, _), (3, _), (0, _), (1, _), (2, _)] dL_text_462 (by decide) rfl rfl ?_
      refine g_iload X dL_text_464 0 rfl rfl ?_
      refine g_if_eq X dL_text_466 472 (by decide) rfl (fun h466 => ?_) (fun h466 => absurd h466 (by decide))
      refine g_iload X dL_text_472 0 rfl rfl ?_
      refine g_if_eq X dL_text_474 502 (by decide) rfl (fun h474 => ?_) (fun h474 => absurd h474 (by decide))
      refine g_iconst (v := (0 : Int32)) X dL_text_502 (by decide) rfl ?_
      refine g_istore X [(19, _), (18, _), (16, _), (15, _), (13, _), (12, _), (11, _), (10, _), (9, _), (8, _), (7, _), (6, _), (5, _), (4, _), (3, _), (0, _), (1, _), (2, _)] dL_text_503 (by decide) rfl rfl ?_
      refine g_iload X dL_text_505 0 rfl rfl ?_
      refine g_if_eq X dL_text_507 513 (by decide) rfl (fun h507 => ?_) (fun h507 => absurd h507 (by decide))
      refine g_iload X dL_text_513 0 rfl rfl ?_
      refine g_if_eq X dL_text_515 531 (by decide) rfl (fun h515 => ?_) (fun h515 => absurd h515 (by decide))
      refine g_iconst (v := (0 : Int32)) X dL_text_531 (by decide) rfl ?_
      refine g_istore X [(19, _), (18, _), (16, _), (15, _), (13, _), (12, _), (11, _), (10, _), (9, _), (8, _), (7, _), (6, _), (5, _), (4, _), (3, _), (0, _), (1, _), (2, _)] dL_text_532 (by decide) rfl rfl ?_
      refine g_iload X dL_text_534 0 rfl rfl ?_
      refine g_if_eq X dL_text_536 542 (by decide) rfl (fun h536 => ?_) (fun h536 => absurd h536 (by decide))
      have etx : txI (txL u3 u12 u23 (1 + u35) u44 u54 (1 + u66) u77 u88 e9) 0 f = ((0 + 1), fQ) := by rw [txL, txI, if_pos (Int32.not_lt.mp h354), ← efP, txI, if_neg (Int32.not_le.mpr h388), ← efQ]
      have e1 : mny = (0 + 1) := by rw [← hmny, etx]
      have e2 : fC = fQ := by rw [← hfC, etx]
      refine g_iload X dL_text_542 1 rfl rfl ?_
      refine g_iload X dL_text_544 3 rfl rfl ?_
      refine g_icmp_ne X dL_text_546 563 (by decide) rfl (fun h546 => absurd (nj_ne (a := (0 + 1)) (b := mny) (by omega) (by omega) h546) (by omega)) (fun h546 => ?_)
      have i546 := nj_eq (a := (0 + 1)) (b := mny) (by omega) (by omega) h546
      refine g_aload_n X dL_text_549 rfl 15 rfl rfl ?_
      refine g_callSRX (w0 := []) (n := 1) (As := [_]) (rest := []) X (c_L_print l D a fQ naQ wQ td vl2 0 p2 fl2 kd2 kpQ (fqa pqQ) (fqa ps) (tlW D pqQ ps) mkQ nQ bQ hWQ hNRQ) gL_text_L_print rfl (by decide +kernel) ⟨Nat.le_of_ble_eq_true rfl, Nat.le_of_ble_eq_true rfl⟩ rfl rfl rfl (Nat.le_of_ble_eq_true rfl) dL_text_550 ⟨Nat.le_of_ble_eq_true rfl, Nat.le_of_ble_eq_true rfl⟩ rfl (fun v hv => ?_)
      obtain rfl := hv
      refine g_st (st' := [_]) rfl ?_
      refine g_lload X dL_text_553 2 rfl rfl ?_
      refine g_topl ((show prS fC = prS fQ from by rw [e2])) ?_
      refine g_lcmp X dL_text_555 rfl ?_
      refine g_if_ne X dL_text_556 563 (by decide) rfl (fun h556 => absurd (lg_self _) h556) (fun h556 => ?_)
      refine g_iconst (v := (1 : Int32)) X dL_text_559 (by decide) rfl ?_
      refine g_goto X dL_text_560 564 (by decide) ?_
      refine g_widen 112 2380 (Nat.le_of_ble_eq_true rfl) (Nat.le_of_ble_eq_true rfl) ?_
      refine g_retW X hr (by first | rfl | exact b2i_nar _) dL_text_564 hAe ?_
      exact ⟨rfl, fQ, naQ, wQ, td, vl2, 0, p2, fl2, kd2, kpQ, pqQ, ⟨⟨_, _, _, hWQ⟩, ⟨_, hNRQ, hn8Q⟩, hFQ, (SI_le (Nat.le_succ _) hSQ), (Nat.zero_le _), (fun k hk => absurd hk (Nat.not_lt_zero k)), hkpQ, _, hHLQ⟩, hADQ, rfl⟩
    · refine g_iconst (v := (1 : Int32)) X dL_text_391 (by decide) rfl ?_
      refine g_goto X dL_text_392 396 (by decide) ?_
      refine g_istore X [(19, _), (18, _), (16, _), (15, _), (13, _), (12, _), (11, _), (10, _), (9, _), (8, _), (7, _), (6, _), (5, _), (4, _), (3, _), (0, _), (1, _), (2, _)] dL_text_396 (by decide) rfl rfl ?_
      refine g_iload X dL_text_398 0 rfl rfl ?_
      refine g_if_eq X dL_text_400 406 (by decide) rfl (fun h400 => absurd h400 (by decide)) (fun h400 => ?_)
      refine g_iinc (v := nI ((0 + 1) + 1)) X [(18, _), (19, _), (16, _), (15, _), (13, _), (12, _), (11, _), (10, _), (9, _), (8, _), (7, _), (6, _), (5, _), (4, _), (3, _), (0, _), (1, _), (2, _)] dL_text_403 1 rfl (nI_add (0 + 1) 1) (by decide) rfl rfl ?_
      refine g_iload X dL_text_406 1 rfl rfl ?_
      refine g_if_eq X dL_text_408 428 (by decide) rfl (fun h408 => absurd h408 (by decide)) (fun h408 => ?_)
      refine g_aload_n X dL_text_411 rfl 15 rfl rfl ?_
      refine g_iload X dL_text_412 10 rfl rfl ?_
      refine g_iload X dL_text_414 9 rfl rfl ?_
      refine g_iload X dL_text_416 8 rfl rfl ?_
      refine g_callVXs (n := 3) (As := [_, _, _]) (rest := []) X hAg rfl (c_X6_pass l D a fQ naQ wQ td vl2 0 p2 fl2 kd2 kpQ pqQ ps mkQ nQ bQ hWQ hNRQ hFQ hkpQ hHLQ.hq _ _ _) gL_text_X6_pass rfl (by decide +kernel) ⟨Nat.le_of_ble_eq_true rfl, Nat.le_of_ble_eq_true rfl⟩ 20 rfl rfl rfl rfl (Nat.le_of_ble_eq_true rfl) dL_text_418 ⟨Nat.le_of_ble_eq_true rfl, Nat.le_of_ble_eq_true rfl⟩ rfl (fun v w9 hv => ?_)
      obtain ⟨rfl, fR, naR, wR, kpR, pqR, efR, hNR, hAR, hkpR, hHLR, ekR, rfl⟩ := ch_out hv hkpQ hHLQ hFQ ⟨_, hNRQ, hn8Q⟩
      have hADR := hAR.trans hADQ
      refine ⟨hAR, ?_⟩
      refine g_st (st' := [_]) rfl ?_
      obtain ⟨mkR, nR, bR, hWR⟩ : WFx fR := by rw [efR]; exact pass_ok ⟨mkQ, nQ, bQ, hWQ⟩
      have hSR : SI cr fR := by rw [efR]; exact pass_si hWQ hSQ hu44 hu54 (by omega)
      have hNRR := hNR.to hWR
      have hFR : FB fR := by rw [efR]; exact pass_fb  hFQ
      obtain ⟨hmkR, hm40R, hn8R, hb0R, hb0R1, hb0R8, hn8Rb, hstR, hnoR, howR, hdoR, hb0Ra, hb0Rc, hb0Rd, hb0Rz⟩ := id hWR
      have hm8R : nR ≤ 8 := by omega
      obtain ⟨eN1R, eN2R, -⟩ := hWR.N
      refine g_if_lt X dL_text_421 428 (by decide) rfl (fun h421 => ?_) (fun h421 => ?_)
      · refine g_iconst (v := (0 : Int32)) X dL_text_428 (by decide) rfl ?_
        refine g_istore X [(19, _), (18, _), (16, _), (15, _), (13, _), (12, _), (11, _), (10, _), (9, _), (8, _), (7, _), (6, _), (5, _), (4, _), (3, _), (0, _), (1, _), (2, _)] dL_text_429 (by decide) rfl rfl ?_
        refine g_iload X dL_text_431 0 rfl rfl ?_
        refine g_if_eq X dL_text_433 439 (by decide) rfl (fun h433 => ?_) (fun h433 => absurd h433 (by decide))
        refine g_iload X dL_text_439 0 rfl rfl ?_
        refine g_if_eq X dL_text_441 461 (by decide) rfl (fun h441 => ?_) (fun h441 => absurd h441 (by decide))
        refine g_iconst (v := (0 : Int32)) X dL_text_461 (by decide) rfl ?_
        refine g_istore X [(19, _), (18, _), (16, _), (15, _), (13, _), (12, _), (11, _), (10, _), (9, _), (8, _), (7, _), (6, _), (5, _), (4, _), (3, _), (0, _), (1, _), (2, _)] dL_text_462 (by decide) rfl rfl ?_
        refine g_iload X dL_text_464 0 rfl rfl ?_
        refine g_if_eq X dL_text_466 472 (by decide) rfl (fun h466 => ?_) (fun h466 => absurd h466 (by decide))
        refine g_iload X dL_text_472 0 rfl rfl ?_
        refine g_if_eq X dL_text_474 502 (by decide) rfl (fun h474 => ?_) (fun h474 => absurd h474 (by decide))
        refine g_iconst (v := (0 : Int32)) X dL_text_502 (by decide) rfl ?_
        refine g_istore X [(19, _), (18, _), (16, _), (15, _), (13, _), (12, _), (11, _), (10, _), (9, _), (8, _), (7, _), (6, _), (5, _), (4, _), (3, _), (0, _), (1, _), (2, _)] dL_text_503 (by decide) rfl rfl ?_
        refine g_iload X dL_text_505 0 rfl rfl ?_
        refine g_if_eq X dL_text_507 513 (by decide) rfl (fun h507 => ?_) (fun h507 => absurd h507 (by decide))
        refine g_iload X dL_text_513 0 rfl rfl ?_
        refine g_if_eq X dL_text_515 531 (by decide) rfl (fun h515 => ?_) (fun h515 => absurd h515 (by decide))
        refine g_iconst (v := (0 : Int32)) X dL_text_531 (by decide) rfl ?_
        refine g_istore X [(19, _), (18, _), (16, _), (15, _), (13, _), (12, _), (11, _), (10, _), (9, _), (8, _), (7, _), (6, _), (5, _), (4, _), (3, _), (0, _), (1, _), (2, _)] dL_text_532 (by decide) rfl rfl ?_
        refine g_iload X dL_text_534 0 rfl rfl ?_
        refine g_if_eq X dL_text_536 542 (by decide) rfl (fun h536 => ?_) (fun h536 => absurd h536 (by decide))
        have etx : txI (txL u3 u12 u23 (1 + u35) u44 u54 (1 + u66) u77 u88 e9) 0 f = (((0 + 1) + 1), fR) := by rw [txL, txI, if_pos (Int32.not_lt.mp h354), ← efP, txI, if_pos (Int32.not_lt.mp h388), ← efQ, txI, if_neg (Int32.not_le.mpr h421), ← efR]
        have e1 : mny = ((0 + 1) + 1) := by rw [← hmny, etx]
        have e2 : fC = fR := by rw [← hfC, etx]
        refine g_iload X dL_text_542 1 rfl rfl ?_
        refine g_iload X dL_text_544 3 rfl rfl ?_
        refine g_icmp_ne X dL_text_546 563 (by decide) rfl (fun h546 => absurd (nj_ne (a := ((0 + 1) + 1)) (b := mny) (by omega) (by omega) h546) (by omega)) (fun h546 => ?_)
        have i546 := nj_eq (a := ((0 + 1) + 1)) (b := mny) (by omega) (by omega) h546
        refine g_aload_n X dL_text_549 rfl 15 rfl rfl ?_
        refine g_callSRX (w0 := []) (n := 1) (As := [_]) (rest := []) X (c_L_print l D a fR naR wR td vl2 0 p2 fl2 kd2 kpR (fqa pqR) (fqa ps) (tlW D pqR ps) mkR nR bR hWR hNRR) gL_text_L_print rfl (by decide +kernel) ⟨Nat.le_of_ble_eq_true rfl, Nat.le_of_ble_eq_true rfl⟩ rfl rfl rfl (Nat.le_of_ble_eq_true rfl) dL_text_550 ⟨Nat.le_of_ble_eq_true rfl, Nat.le_of_ble_eq_true rfl⟩ rfl (fun v hv => ?_)
        obtain rfl := hv
        refine g_st (st' := [_]) rfl ?_
        refine g_lload X dL_text_553 2 rfl rfl ?_
        refine g_topl ((show prS fC = prS fR from by rw [e2])) ?_
        refine g_lcmp X dL_text_555 rfl ?_
        refine g_if_ne X dL_text_556 563 (by decide) rfl (fun h556 => absurd (lg_self _) h556) (fun h556 => ?_)
        refine g_iconst (v := (1 : Int32)) X dL_text_559 (by decide) rfl ?_
        refine g_goto X dL_text_560 564 (by decide) ?_
        refine g_widen 112 2380 (Nat.le_of_ble_eq_true rfl) (Nat.le_of_ble_eq_true rfl) ?_
        refine g_retW X hr (by first | rfl | exact b2i_nar _) dL_text_564 hAe ?_
        exact ⟨rfl, fR, naR, wR, td, vl2, 0, p2, fl2, kd2, kpR, pqR, ⟨⟨_, _, _, hWR⟩, ⟨_, hNRR, hn8R⟩, hFR, (SI_le (Nat.le_succ _) hSR), (Nat.zero_le _), (fun k hk => absurd hk (Nat.not_lt_zero k)), hkpR, _, hHLR⟩, hADR, rfl⟩
      · refine g_iconst (v := (1 : Int32)) X dL_text_424 (by decide) rfl ?_
        refine g_goto X dL_text_425 429 (by decide) ?_
        refine g_istore X [(19, _), (18, _), (16, _), (15, _), (13, _), (12, _), (11, _), (10, _), (9, _), (8, _), (7, _), (6, _), (5, _), (4, _), (3, _), (0, _), (1, _), (2, _)] dL_text_429 (by decide) rfl rfl ?_
        refine g_iload X dL_text_431 0 rfl rfl ?_
        refine g_if_eq X dL_text_433 439 (by decide) rfl (fun h433 => absurd h433 (by decide)) (fun h433 => ?_)
        refine g_iinc (v := nI (((0 + 1) + 1) + 1)) X [(18, _), (19, _), (16, _), (15, _), (13, _), (12, _), (11, _), (10, _), (9, _), (8, _), (7, _), (6, _), (5, _), (4, _), (3, _), (0, _), (1, _), (2, _)] dL_text_436 1 rfl (nI_add ((0 + 1) + 1) 1) (by decide) rfl rfl ?_
        refine g_iload X dL_text_439 1 rfl rfl ?_
        refine g_if_eq X dL_text_441 461 (by decide) rfl (fun h441 => absurd h441 (by decide)) (fun h441 => ?_)
        refine g_aload_n X dL_text_444 rfl 15 rfl rfl ?_
        refine g_iload X dL_text_445 9 rfl rfl ?_
        refine g_iload X dL_text_447 7 rfl rfl ?_
        refine g_iload X dL_text_449 6 rfl rfl ?_
        refine g_callVXs (n := 3) (As := [_, _, _]) (rest := []) X hAg rfl (c_X6_door l D a fR naR wR td vl2 0 p2 fl2 kd2 kpR pqR ps mkR nR bR hWR hNRR hFR hkpR hHLR.hq _ _ _) gL_text_X6_door rfl (by decide +kernel) ⟨Nat.le_of_ble_eq_true rfl, Nat.le_of_ble_eq_true rfl⟩ 20 rfl rfl rfl rfl (Nat.le_of_ble_eq_true rfl) dL_text_451 ⟨Nat.le_of_ble_eq_true rfl, Nat.le_of_ble_eq_true rfl⟩ rfl (fun v w9 hv => ?_)
        obtain ⟨rfl, fS, naS, wS, kpS, pqS, efS, hNS, hAS, hkpS, hHLS, ekS, rfl⟩ := ch_out hv hkpR hHLR hFR ⟨_, hNRR, hn8R⟩
        have hADS := hAS.trans hADR
        refine ⟨hAS, ?_⟩
        refine g_st (st' := [_]) rfl ?_
        obtain ⟨mkS, nS, bS, hWS⟩ : WFx fS := by rw [efS]; exact door_ok ⟨mkR, nR, bR, hWR⟩
        have hSS : SI cr fS := by rw [efS]; exact door_si hWR hSR hu54 (by omega) hu88
        have hNRS := hNS.to hWS
        have hFS : FB fS := by rw [efS]; exact door_fb ⟨mkR, nR, bR, hWR⟩ hFR
        obtain ⟨hmkS, hm40S, hn8S, hb0S, hb0S1, hb0S8, hn8Sb, hstS, hnoS, howS, hdoS, hb0Sa, hb0Sc, hb0Sd, hb0Sz⟩ := id hWS
        have hm8S : nS ≤ 8 := by omega
        obtain ⟨eN1S, eN2S, -⟩ := hWS.N
        refine g_if_lt X dL_text_454 461 (by decide) rfl (fun h454 => ?_) (fun h454 => ?_)
        · refine g_iconst (v := (0 : Int32)) X dL_text_461 (by decide) rfl ?_
          refine g_istore X [(19, _), (18, _), (16, _), (15, _), (13, _), (12, _), (11, _), (10, _), (9, _), (8, _), (7, _), (6, _), (5, _), (4, _), (3, _), (0, _), (1, _), (2, _)] dL_text_462 (by decide) rfl rfl ?_
          refine g_iload X dL_text_464 0 rfl rfl ?_
          refine g_if_eq X dL_text_466 472 (by decide) rfl (fun h466 => ?_) (fun h466 => absurd h466 (by decide))
          refine g_iload X dL_text_472 0 rfl rfl ?_
          refine g_if_eq X dL_text_474 502 (by decide) rfl (fun h474 => ?_) (fun h474 => absurd h474 (by decide))
          refine g_iconst (v := (0 : Int32)) X dL_text_502 (by decide) rfl ?_
          refine g_istore X [(19, _), (18, _), (16, _), (15, _), (13, _), (12, _), (11, _), (10, _), (9, _), (8, _), (7, _), (6, _), (5, _), (4, _), (3, _), (0, _), (1, _), (2, _)] dL_text_503 (by decide) rfl rfl ?_
          refine g_iload X dL_text_505 0 rfl rfl ?_
          refine g_if_eq X dL_text_507 513 (by decide) rfl (fun h507 => ?_) (fun h507 => absurd h507 (by decide))
          refine g_iload X dL_text_513 0 rfl rfl ?_
          refine g_if_eq X dL_text_515 531 (by decide) rfl (fun h515 => ?_) (fun h515 => absurd h515 (by decide))
          refine g_iconst (v := (0 : Int32)) X dL_text_531 (by decide) rfl ?_
          refine g_istore X [(19, _), (18, _), (16, _), (15, _), (13, _), (12, _), (11, _), (10, _), (9, _), (8, _), (7, _), (6, _), (5, _), (4, _), (3, _), (0, _), (1, _), (2, _)] dL_text_532 (by decide) rfl rfl ?_
          refine g_iload X dL_text_534 0 rfl rfl ?_
          refine g_if_eq X dL_text_536 542 (by decide) rfl (fun h536 => ?_) (fun h536 => absurd h536 (by decide))
          have etx : txI (txL u3 u12 u23 (1 + u35) u44 u54 (1 + u66) u77 u88 e9) 0 f = ((((0 + 1) + 1) + 1), fS) := by rw [txL, txI, if_pos (Int32.not_lt.mp h354), ← efP, txI, if_pos (Int32.not_lt.mp h388), ← efQ, txI, if_pos (Int32.not_lt.mp h421), ← efR, txI, if_neg (Int32.not_le.mpr h454), ← efS]
          have e1 : mny = (((0 + 1) + 1) + 1) := by rw [← hmny, etx]
          have e2 : fC = fS := by rw [← hfC, etx]
          refine g_iload X dL_text_542 1 rfl rfl ?_
          refine g_iload X dL_text_544 3 rfl rfl ?_
          refine g_icmp_ne X dL_text_546 563 (by decide) rfl (fun h546 => absurd (nj_ne (a := (((0 + 1) + 1) + 1)) (b := mny) (by omega) (by omega) h546) (by omega)) (fun h546 => ?_)
          have i546 := nj_eq (a := (((0 + 1) + 1) + 1)) (b := mny) (by omega) (by omega) h546
          refine g_aload_n X dL_text_549 rfl 15 rfl rfl ?_
          refine g_callSRX (w0 := []) (n := 1) (As := [_]) (rest := []) X (c_L_print l D a fS naS wS td vl2 0 p2 fl2 kd2 kpS (fqa pqS) (fqa ps) (tlW D pqS ps) mkS nS bS hWS hNRS) gL_text_L_print rfl (by decide +kernel) ⟨Nat.le_of_ble_eq_true rfl, Nat.le_of_ble_eq_true rfl⟩ rfl rfl rfl (Nat.le_of_ble_eq_true rfl) dL_text_550 ⟨Nat.le_of_ble_eq_true rfl, Nat.le_of_ble_eq_true rfl⟩ rfl (fun v hv => ?_)
          obtain rfl := hv
          refine g_st (st' := [_]) rfl ?_
          refine g_lload X dL_text_553 2 rfl rfl ?_
          refine g_topl ((show prS fC = prS fS from by rw [e2])) ?_
          refine g_lcmp X dL_text_555 rfl ?_
          refine g_if_ne X dL_text_556 563 (by decide) rfl (fun h556 => absurd (lg_self _) h556) (fun h556 => ?_)
          refine g_iconst (v := (1 : Int32)) X dL_text_559 (by decide) rfl ?_
          refine g_goto X dL_text_560 564 (by decide) ?_
          refine g_widen 112 2380 (Nat.le_of_ble_eq_true rfl) (Nat.le_of_ble_eq_true rfl) ?_
          refine g_retW X hr (by first | rfl | exact b2i_nar _) dL_text_564 hAe ?_
          exact ⟨rfl, fS, naS, wS, td, vl2, 0, p2, fl2, kd2, kpS, pqS, ⟨⟨_, _, _, hWS⟩, ⟨_, hNRS, hn8S⟩, hFS, (SI_le (Nat.le_succ _) hSS), (Nat.zero_le _), (fun k hk => absurd hk (Nat.not_lt_zero k)), hkpS, _, hHLS⟩, hADS, rfl⟩
        · refine g_iconst (v := (1 : Int32)) X dL_text_457 (by decide) rfl ?_
          refine g_goto X dL_text_458 462 (by decide) ?_
          refine g_istore X [(19, _), (18, _), (16, _), (15, _), (13, _), (12, _), (11, _), (10, _), (9, _), (8, _), (7, _), (6, _), (5, _), (4, _), (3, _), (0, _), (1, _), (2, _)] dL_text_462 (by decide) rfl rfl ?_
          refine g_iload X dL_text_464 0 rfl rfl ?_
          refine g_if_eq X dL_text_466 472 (by decide) rfl (fun h466 => absurd h466 (by decide)) (fun h466 => ?_)
          refine g_iinc (v := nI ((((0 + 1) + 1) + 1) + 1)) X [(18, _), (19, _), (16, _), (15, _), (13, _), (12, _), (11, _), (10, _), (9, _), (8, _), (7, _), (6, _), (5, _), (4, _), (3, _), (0, _), (1, _), (2, _)] dL_text_469 1 rfl (nI_add (((0 + 1) + 1) + 1) 1) (by decide) rfl rfl ?_
          refine g_iload X dL_text_472 1 rfl rfl ?_
          refine g_if_eq X dL_text_474 502 (by decide) rfl (fun h474 => absurd h474 (by decide)) (fun h474 => ?_)
          refine g_aload_n X dL_text_477 rfl 15 rfl rfl ?_
          refine g_iload X dL_text_478 9 rfl rfl ?_
          refine g_iload X dL_text_480 7 rfl rfl ?_
          refine g_iload X dL_text_482 5 rfl rfl ?_
          refine g_if_eq X dL_text_484 491 (by decide) rfl (fun h484 => ?_) (fun h484 => ?_)
          · have i484 := nj_eq (a := wk) (b := 0) (by omega) (by omega) h484
            refine g_iconst (v := (1 : Int32)) X dL_text_491 (by decide) rfl ?_
            refine g_topi ((show (1 : Int32) = nI e9 from by rw [show e9 = 1 from by omega]; rfl)) ?_
            refine g_callVXs (n := 3) (As := [_, _, _]) (rest := []) X hAg rfl (c_X6_come l D a fS naS wS td vl2 0 p2 fl2 kd2 kpS pqS ps mkS nS bS hWS hNRS hFS hkpS hHLS.hq _ _ _) gL_text_X6_come rfl (by decide +kernel) ⟨Nat.le_of_ble_eq_true rfl, Nat.le_of_ble_eq_true rfl⟩ 20 rfl rfl rfl rfl (Nat.le_of_ble_eq_true rfl) dL_text_492 ⟨Nat.le_of_ble_eq_true rfl, Nat.le_of_ble_eq_true rfl⟩ rfl (fun v w9 hv => ?_)
            obtain ⟨rfl, fT, naT, wT, kpT, pqT, efT, hNT, hAT, hkpT, hHLT, ekT, rfl⟩ := ch_out hv hkpS hHLS hFS ⟨_, hNRS, hn8S⟩
            have hADT := hAT.trans hADS
            refine ⟨hAT, ?_⟩
            refine g_st (st' := [_]) rfl ?_
            obtain ⟨mkT, nT, bT, hWT⟩ : WFx fT := by rw [efT]; exact come_ok ⟨mkS, nS, bS, hWS⟩
            have hST : SI (cr + 1) fT := by rw [efT]; exact come_si hWS hSS hu54 (by omega) (by omega)
            have hNRT := hNT.to hWT
            have hFT : FB fT := by rw [efT]; exact come_fb ⟨mkS, nS, bS, hWS⟩ hFS
            obtain ⟨hmkT, hm40T, hn8T, hb0T, hb0T1, hb0T8, hn8Tb, hstT, hnoT, howT, hdoT, hb0Ta, hb0Tc, hb0Td, hb0Tz⟩ := id hWT
            have hm8T : nT ≤ 8 := by omega
            obtain ⟨eN1T, eN2T, -⟩ := hWT.N
            refine g_if_lt X dL_text_495 502 (by decide) rfl (fun h495 => ?_) (fun h495 => ?_)
            · refine g_iconst (v := (0 : Int32)) X dL_text_502 (by decide) rfl ?_
              refine g_istore X [(19, _), (18, _), (16, _), (15, _), (13, _), (12, _), (11, _), (10, _), (9, _), (8, _), (7, _), (6, _), (5, _), (4, _), (3, _), (0, _), (1, _), (2, _)] dL_text_503 (by decide) rfl rfl ?_
              refine g_iload X dL_text_505 0 rfl rfl ?_
              refine g_if_eq X dL_text_507 513 (by decide) rfl (fun h507 => ?_) (fun h507 => absurd h507 (by decide))
              refine g_iload X dL_text_513 0 rfl rfl ?_
              refine g_if_eq X dL_text_515 531 (by decide) rfl (fun h515 => ?_) (fun h515 => absurd h515 (by decide))
              refine g_iconst (v := (0 : Int32)) X dL_text_531 (by decide) rfl ?_
              refine g_istore X [(19, _), (18, _), (16, _), (15, _), (13, _), (12, _), (11, _), (10, _), (9, _), (8, _), (7, _), (6, _), (5, _), (4, _), (3, _), (0, _), (1, _), (2, _)] dL_text_532 (by decide) rfl rfl ?_
              refine g_iload X dL_text_534 0 rfl rfl ?_
              refine g_if_eq X dL_text_536 542 (by decide) rfl (fun h536 => ?_) (fun h536 => absurd h536 (by decide))
              have etx : txI (txL u3 u12 u23 (1 + u35) u44 u54 (1 + u66) u77 u88 e9) 0 f = (((((0 + 1) + 1) + 1) + 1), fT) := by rw [txL, txI, if_pos (Int32.not_lt.mp h354), ← efP, txI, if_pos (Int32.not_lt.mp h388), ← efQ, txI, if_pos (Int32.not_lt.mp h421), ← efR, txI, if_pos (Int32.not_lt.mp h454), ← efS, txI, if_neg (Int32.not_le.mpr h495), ← efT]
              have e1 : mny = ((((0 + 1) + 1) + 1) + 1) := by rw [← hmny, etx]
              have e2 : fC = fT := by rw [← hfC, etx]
              refine g_iload X dL_text_542 1 rfl rfl ?_
              refine g_iload X dL_text_544 3 rfl rfl ?_
              refine g_icmp_ne X dL_text_546 563 (by decide) rfl (fun h546 => absurd (nj_ne (a := ((((0 + 1) + 1) + 1) + 1)) (b := mny) (by omega) (by omega) h546) (by omega)) (fun h546 => ?_)
              have i546 := nj_eq (a := ((((0 + 1) + 1) + 1) + 1)) (b := mny) (by omega) (by omega) h546
              refine g_aload_n X dL_text_549 rfl 15 rfl rfl ?_
              refine g_callSRX (w0 := []) (n := 1) (As := [_]) (rest := []) X (c_L_print l D a fT naT wT td vl2 0 p2 fl2 kd2 kpT (fqa pqT) (fqa ps) (tlW D pqT ps) mkT nT bT hWT hNRT) gL_text_L_print rfl (by decide +kernel) ⟨Nat.le_of_ble_eq_true rfl, Nat.le_of_ble_eq_true rfl⟩ rfl rfl rfl (Nat.le_of_ble_eq_true rfl) dL_text_550 ⟨Nat.le_of_ble_eq_true rfl, Nat.le_of_ble_eq_true rfl⟩ rfl (fun v hv => ?_)
              obtain rfl := hv
              refine g_st (st' := [_]) rfl ?_
              refine g_lload X dL_text_553 2 rfl rfl ?_
              refine g_topl ((show prS fC = prS fT from by rw [e2])) ?_
              refine g_lcmp X dL_text_555 rfl ?_
              refine g_if_ne X dL_text_556 563 (by decide) rfl (fun h556 => absurd (lg_self _) h556) (fun h556 => ?_)
              refine g_iconst (v := (1 : Int32)) X dL_text_559 (by decide) rfl ?_
              refine g_goto X dL_text_560 564 (by decide) ?_
              refine g_widen 112 2380 (Nat.le_of_ble_eq_true rfl) (Nat.le_of_ble_eq_true rfl) ?_
              refine g_retW X hr (by first | rfl | exact b2i_nar _) dL_text_564 hAe ?_
              exact ⟨rfl, fT, naT, wT, td, vl2, 0, p2, fl2, kd2, kpT, pqT, ⟨⟨_, _, _, hWT⟩, ⟨_, hNRT, hn8T⟩, hFT, hST, (Nat.zero_le _), (fun k hk => absurd hk (Nat.not_lt_zero k)), hkpT, _, hHLT⟩, hADT, rfl⟩
            · refine g_iconst (v := (1 : Int32)) X dL_text_498 (by decide) rfl ?_
              refine g_goto X dL_text_499 503 (by decide) ?_
              refine g_istore X [(19, _), (18, _), (16, _), (15, _), (13, _), (12, _), (11, _), (10, _), (9, _), (8, _), (7, _), (6, _), (5, _), (4, _), (3, _), (0, _), (1, _), (2, _)] dL_text_503 (by decide) rfl rfl ?_
              refine g_iload X dL_text_505 0 rfl rfl ?_
              refine g_if_eq X dL_text_507 513 (by decide) rfl (fun h507 => absurd h507 (by decide)) (fun h507 => ?_)
              refine g_iinc (v := nI (((((0 + 1) + 1) + 1) + 1) + 1)) X [(18, _), (19, _), (16, _), (15, _), (13, _), (12, _), (11, _), (10, _), (9, _), (8, _), (7, _), (6, _), (5, _), (4, _), (3, _), (0, _), (1, _), (2, _)] dL_text_510 1 rfl (nI_add ((((0 + 1) + 1) + 1) + 1) 1) (by decide) rfl rfl ?_
              refine g_iload X dL_text_513 1 rfl rfl ?_
              refine g_if_eq X dL_text_515 531 (by decide) rfl (fun h515 => absurd h515 (by decide)) (fun h515 => ?_)
              refine g_aload_n X dL_text_518 rfl 15 rfl rfl ?_
              refine g_iload X dL_text_519 10 rfl rfl ?_
              refine g_callVXs (n := 1) (As := [_]) (rest := []) X hAg rfl (c_X6_takeBack l D a fT naT wT td vl2 0 p2 fl2 kd2 kpT pqT ps mkT nT bT hWT hNRT hFT hkpT hHLT.hq _) gL_text_X6_takeBack rfl (by decide +kernel) ⟨Nat.le_of_ble_eq_true rfl, Nat.le_of_ble_eq_true rfl⟩ 20 rfl rfl rfl rfl (Nat.le_of_ble_eq_true rfl) dL_text_521 ⟨Nat.le_of_ble_eq_true rfl, Nat.le_of_ble_eq_true rfl⟩ rfl (fun v w9 hv => ?_)
              obtain ⟨rfl, fV, naV, wV, kpV, pqV, efV, hNV, hAV, hkpV, hHLV, ekV, rfl⟩ := ch_out hv hkpT hHLT hFT ⟨_, hNRT, hn8T⟩
              have hADV := hAV.trans hADT
              refine ⟨hAV, ?_⟩
              refine g_st (st' := [_]) rfl ?_
              obtain ⟨mkV, nV, bV, hWV⟩ : WFx fV := by rw [efV]; exact take_ok ⟨mkT, nT, bT, hWT⟩
              have hSV : SI (cr + 1) fV := by rw [efV]; exact take_si hWT hST (by omega)
              have hNRV := hNV.to hWV
              have hFV : FB fV := by rw [efV]; exact take_fb ⟨mkT, nT, bT, hWT⟩ hFT
              obtain ⟨hmkV, hm40V, hn8V, hb0V, hb0V1, hb0V8, hn8Vb, hstV, hnoV, howV, hdoV, hb0Va, hb0Vc, hb0Vd, hb0Vz⟩ := id hWV
              have hm8V : nV ≤ 8 := by omega
              obtain ⟨eN1V, eN2V, -⟩ := hWV.N
              refine g_if_lt X dL_text_524 531 (by decide) rfl (fun h524 => ?_) (fun h524 => ?_)
              · refine g_iconst (v := (0 : Int32)) X dL_text_531 (by decide) rfl ?_
                refine g_istore X [(19, _), (18, _), (16, _), (15, _), (13, _), (12, _), (11, _), (10, _), (9, _), (8, _), (7, _), (6, _), (5, _), (4, _), (3, _), (0, _), (1, _), (2, _)] dL_text_532 (by decide) rfl rfl ?_
                refine g_iload X dL_text_534 0 rfl rfl ?_
                refine g_if_eq X dL_text_536 542 (by decide) rfl (fun h536 => ?_) (fun h536 => absurd h536 (by decide))
                have etx : txI (txL u3 u12 u23 (1 + u35) u44 u54 (1 + u66) u77 u88 e9) 0 f = ((((((0 + 1) + 1) + 1) + 1) + 1), fV) := by rw [txL, txI, if_pos (Int32.not_lt.mp h354), ← efP, txI, if_pos (Int32.not_lt.mp h388), ← efQ, txI, if_pos (Int32.not_lt.mp h421), ← efR, txI, if_pos (Int32.not_lt.mp h454), ← efS, txI, if_pos (Int32.not_lt.mp h495), ← efT, txI, if_neg (Int32.not_le.mpr h524), ← efV]
                have e1 : mny = (((((0 + 1) + 1) + 1) + 1) + 1) := by rw [← hmny, etx]
                have e2 : fC = fV := by rw [← hfC, etx]
                refine g_iload X dL_text_542 1 rfl rfl ?_
                refine g_iload X dL_text_544 3 rfl rfl ?_
                refine g_icmp_ne X dL_text_546 563 (by decide) rfl (fun h546 => absurd (nj_ne (a := (((((0 + 1) + 1) + 1) + 1) + 1)) (b := mny) (by omega) (by omega) h546) (by omega)) (fun h546 => ?_)
                have i546 := nj_eq (a := (((((0 + 1) + 1) + 1) + 1) + 1)) (b := mny) (by omega) (by omega) h546
                refine g_aload_n X dL_text_549 rfl 15 rfl rfl ?_
                refine g_callSRX (w0 := []) (n := 1) (As := [_]) (rest := []) X (c_L_print l D a fV naV wV td vl2 0 p2 fl2 kd2 kpV (fqa pqV) (fqa ps) (tlW D pqV ps) mkV nV bV hWV hNRV) gL_text_L_print rfl (by decide +kernel) ⟨Nat.le_of_ble_eq_true rfl, Nat.le_of_ble_eq_true rfl⟩ rfl rfl rfl (Nat.le_of_ble_eq_true rfl) dL_text_550 ⟨Nat.le_of_ble_eq_true rfl, Nat.le_of_ble_eq_true rfl⟩ rfl (fun v hv => ?_)
                obtain rfl := hv
                refine g_st (st' := [_]) rfl ?_
                refine g_lload X dL_text_553 2 rfl rfl ?_
                refine g_topl ((show prS fC = prS fV from by rw [e2])) ?_
                refine g_lcmp X dL_text_555 rfl ?_
                refine g_if_ne X dL_text_556 563 (by decide) rfl (fun h556 => absurd (lg_self _) h556) (fun h556 => ?_)
                refine g_iconst (v := (1 : Int32)) X dL_text_559 (by decide) rfl ?_
                refine g_goto X dL_text_560 564 (by decide) ?_
                refine g_retW X hr (by first | rfl | exact b2i_nar _) dL_text_564 hAe ?_
                exact ⟨rfl, fV, naV, wV, td, vl2, 0, p2, fl2, kd2, kpV, pqV, ⟨⟨_, _, _, hWV⟩, ⟨_, hNRV, hn8V⟩, hFV, hSV, (Nat.zero_le _), (fun k hk => absurd hk (Nat.not_lt_zero k)), hkpV, _, hHLV⟩, hADV, rfl⟩
              · refine g_iconst (v := (1 : Int32)) X dL_text_527 (by decide) rfl ?_
                refine g_goto X dL_text_528 532 (by decide) ?_
                refine g_istore X [(19, _), (18, _), (16, _), (15, _), (13, _), (12, _), (11, _), (10, _), (9, _), (8, _), (7, _), (6, _), (5, _), (4, _), (3, _), (0, _), (1, _), (2, _)] dL_text_532 (by decide) rfl rfl ?_
                refine g_iload X dL_text_534 0 rfl rfl ?_
                refine g_if_eq X dL_text_536 542 (by decide) rfl (fun h536 => absurd h536 (by decide)) (fun h536 => ?_)
                refine g_iinc (v := nI ((((((0 + 1) + 1) + 1) + 1) + 1) + 1)) X [(18, _), (19, _), (16, _), (15, _), (13, _), (12, _), (11, _), (10, _), (9, _), (8, _), (7, _), (6, _), (5, _), (4, _), (3, _), (0, _), (1, _), (2, _)] dL_text_539 1 rfl (nI_add (((((0 + 1) + 1) + 1) + 1) + 1) 1) (by decide) rfl rfl ?_
                have etx : txI (txL u3 u12 u23 (1 + u35) u44 u54 (1 + u66) u77 u88 e9) 0 f = (((((((0 + 1) + 1) + 1) + 1) + 1) + 1), fV) := by rw [txL, txI, if_pos (Int32.not_lt.mp h354), ← efP, txI, if_pos (Int32.not_lt.mp h388), ← efQ, txI, if_pos (Int32.not_lt.mp h421), ← efR, txI, if_pos (Int32.not_lt.mp h454), ← efS, txI, if_pos (Int32.not_lt.mp h495), ← efT, txI, if_pos (Int32.not_lt.mp h524), ← efV, txI]
                have e1 : mny = ((((((0 + 1) + 1) + 1) + 1) + 1) + 1) := by rw [← hmny, etx]
                have e2 : fC = fV := by rw [← hfC, etx]
                refine g_iload X dL_text_542 0 rfl rfl ?_
                refine g_iload X dL_text_544 3 rfl rfl ?_
                refine g_icmp_ne X dL_text_546 563 (by decide) rfl (fun h546 => absurd (nj_ne (a := ((((((0 + 1) + 1) + 1) + 1) + 1) + 1)) (b := mny) (by omega) (by omega) h546) (by omega)) (fun h546 => ?_)
                have i546 := nj_eq (a := ((((((0 + 1) + 1) + 1) + 1) + 1) + 1)) (b := mny) (by omega) (by omega) h546
                refine g_aload_n X dL_text_549 rfl 15 rfl rfl ?_
                refine g_callSRX (w0 := []) (n := 1) (As := [_]) (rest := []) X (c_L_print l D a fV naV wV td vl2 0 p2 fl2 kd2 kpV (fqa pqV) (fqa ps) (tlW D pqV ps) mkV nV bV hWV hNRV) gL_text_L_print rfl (by decide +kernel) ⟨Nat.le_of_ble_eq_true rfl, Nat.le_of_ble_eq_true rfl⟩ rfl rfl rfl (Nat.le_of_ble_eq_true rfl) dL_text_550 ⟨Nat.le_of_ble_eq_true rfl, Nat.le_of_ble_eq_true rfl⟩ rfl (fun v hv => ?_)
                obtain rfl := hv
                refine g_st (st' := [_]) rfl ?_
                refine g_lload X dL_text_553 2 rfl rfl ?_
                refine g_topl ((show prS fC = prS fV from by rw [e2])) ?_
                refine g_lcmp X dL_text_555 rfl ?_
                refine g_if_ne X dL_text_556 563 (by decide) rfl (fun h556 => absurd (lg_self _) h556) (fun h556 => ?_)
                refine g_iconst (v := (1 : Int32)) X dL_text_559 (by decide) rfl ?_
                refine g_goto X dL_text_560 564 (by decide) ?_
                refine g_retW X hr (by first | rfl | exact b2i_nar _) dL_text_564 hAe ?_
                exact ⟨rfl, fV, naV, wV, td, vl2, 0, p2, fl2, kd2, kpV, pqV, ⟨⟨_, _, _, hWV⟩, ⟨_, hNRV, hn8V⟩, hFV, hSV, (Nat.zero_le _), (fun k hk => absurd hk (Nat.not_lt_zero k)), hkpV, _, hHLV⟩, hADV, rfl⟩
          · have i484 := nj_ne (a := wk) (b := 0) (by omega) (by omega) h484
            refine g_iconst (v := (2 : Int32)) X dL_text_487 (by decide) rfl ?_
            refine g_goto X dL_text_488 492 (by decide) ?_
            refine g_topi ((show (2 : Int32) = nI e9 from by rw [show e9 = 2 from by omega]; rfl)) ?_
            refine g_callVXs (n := 3) (As := [_, _, _]) (rest := []) X hAg rfl (c_X6_come l D a fS naS wS td vl2 0 p2 fl2 kd2 kpS pqS ps mkS nS bS hWS hNRS hFS hkpS hHLS.hq _ _ _) gL_text_X6_come rfl (by decide +kernel) ⟨Nat.le_of_ble_eq_true rfl, Nat.le_of_ble_eq_true rfl⟩ 20 rfl rfl rfl rfl (Nat.le_of_ble_eq_true rfl) dL_text_492 ⟨Nat.le_of_ble_eq_true rfl, Nat.le_of_ble_eq_true rfl⟩ rfl (fun v w9 hv => ?_)
            obtain ⟨rfl, fT, naT, wT, kpT, pqT, efT, hNT, hAT, hkpT, hHLT, ekT, rfl⟩ := ch_out hv hkpS hHLS hFS ⟨_, hNRS, hn8S⟩
            have hADT := hAT.trans hADS
            refine ⟨hAT, ?_⟩
            refine g_st (st' := [_]) rfl ?_
            obtain ⟨mkT, nT, bT, hWT⟩ : WFx fT := by rw [efT]; exact come_ok ⟨mkS, nS, bS, hWS⟩
            have hST : SI (cr + 1) fT := by rw [efT]; exact come_si hWS hSS hu54 (by omega) (by omega)
            have hNRT := hNT.to hWT
            have hFT : FB fT := by rw [efT]; exact come_fb ⟨mkS, nS, bS, hWS⟩ hFS
            obtain ⟨hmkT, hm40T, hn8T, hb0T, hb0T1, hb0T8, hn8Tb, hstT, hnoT, howT, hdoT, hb0Ta, hb0Tc, hb0Td, hb0Tz⟩ := id hWT
            have hm8T : nT ≤ 8 := by omega
            obtain ⟨eN1T, eN2T, -⟩ := hWT.N
            refine g_if_lt X dL_text_495 502 (by decide) rfl (fun h495 => ?_) (fun h495 => ?_)
            · refine g_iconst (v := (0 : Int32)) X dL_text_502 (by decide) rfl ?_
              refine g_istore X [(19, _), (18, _), (16, _), (15, _), (13, _), (12, _), (11, _), (10, _), (9, _), (8, _), (7, _), (6, _), (5, _), (4, _), (3, _), (0, _), (1, _), (2, _)] dL_text_503 (by decide) rfl rfl ?_
              refine g_iload X dL_text_505 0 rfl rfl ?_
              refine g_if_eq X dL_text_507 513 (by decide) rfl (fun h507 => ?_) (fun h507 => absurd h507 (by decide))
              refine g_iload X dL_text_513 0 rfl rfl ?_
              refine g_if_eq X dL_text_515 531 (by decide) rfl (fun h515 => ?_) (fun h515 => absurd h515 (by decide))
              refine g_iconst (v := (0 : Int32)) X dL_text_531 (by decide) rfl ?_
              refine g_istore X [(19, _), (18, _), (16, _), (15, _), (13, _), (12, _), (11, _), (10, _), (9, _), (8, _), (7, _), (6, _), (5, _), (4, _), (3, _), (0, _), (1, _), (2, _)] dL_text_532 (by decide) rfl rfl ?_
              refine g_iload X dL_text_534 0 rfl rfl ?_
              refine g_if_eq X dL_text_536 542 (by decide) rfl (fun h536 => ?_) (fun h536 => absurd h536 (by decide))
              have etx : txI (txL u3 u12 u23 (1 + u35) u44 u54 (1 + u66) u77 u88 e9) 0 f = (((((0 + 1) + 1) + 1) + 1), fT) := by rw [txL, txI, if_pos (Int32.not_lt.mp h354), ← efP, txI, if_pos (Int32.not_lt.mp h388), ← efQ, txI, if_pos (Int32.not_lt.mp h421), ← efR, txI, if_pos (Int32.not_lt.mp h454), ← efS, txI, if_neg (Int32.not_le.mpr h495), ← efT]
              have e1 : mny = ((((0 + 1) + 1) + 1) + 1) := by rw [← hmny, etx]
              have e2 : fC = fT := by rw [← hfC, etx]
              refine g_iload X dL_text_542 1 rfl rfl ?_
              refine g_iload X dL_text_544 3 rfl rfl ?_
              refine g_icmp_ne X dL_text_546 563 (by decide) rfl (fun h546 => absurd (nj_ne (a := ((((0 + 1) + 1) + 1) + 1)) (b := mny) (by omega) (by omega) h546) (by omega)) (fun h546 => ?_)
              have i546 := nj_eq (a := ((((0 + 1) + 1) + 1) + 1)) (b := mny) (by omega) (by omega) h546
              refine g_aload_n X dL_text_549 rfl 15 rfl rfl ?_
              refine g_callSRX (w0 := []) (n := 1) (As := [_]) (rest := []) X (c_L_print l D a fT naT wT td vl2 0 p2 fl2 kd2 kpT (fqa pqT) (fqa ps) (tlW D pqT ps) mkT nT bT hWT hNRT) gL_text_L_print rfl (by decide +kernel) ⟨Nat.le_of_ble_eq_true rfl, Nat.le_of_ble_eq_true rfl⟩ rfl rfl rfl (Nat.le_of_ble_eq_true rfl) dL_text_550 ⟨Nat.le_of_ble_eq_true rfl, Nat.le_of_ble_eq_true rfl⟩ rfl (fun v hv => ?_)
              obtain rfl := hv
              refine g_st (st' := [_]) rfl ?_
              refine g_lload X dL_text_553 2 rfl rfl ?_
              refine g_topl ((show prS fC = prS fT from by rw [e2])) ?_
              refine g_lcmp X dL_text_555 rfl ?_
              refine g_if_ne X dL_text_556 563 (by decide) rfl (fun h556 => absurd (lg_self _) h556) (fun h556 => ?_)
              refine g_iconst (v := (1 : Int32)) X dL_text_559 (by decide) rfl ?_
              refine g_goto X dL_text_560 564 (by decide) ?_
              refine g_widen 112 2380 (Nat.le_of_ble_eq_true rfl) (Nat.le_of_ble_eq_true rfl) ?_
              refine g_retW X hr (by first | rfl | exact b2i_nar _) dL_text_564 hAe ?_
              exact ⟨rfl, fT, naT, wT, td, vl2, 0, p2, fl2, kd2, kpT, pqT, ⟨⟨_, _, _, hWT⟩, ⟨_, hNRT, hn8T⟩, hFT, hST, (Nat.zero_le _), (fun k hk => absurd hk (Nat.not_lt_zero k)), hkpT, _, hHLT⟩, hADT, rfl⟩
            · refine g_iconst (v := (1 : Int32)) X dL_text_498 (by decide) rfl ?_
              refine g_goto X dL_text_499 503 (by decide) ?_
              refine g_istore X [(19, _), (18, _), (16, _), (15, _), (13, _), (12, _), (11, _), (10, _), (9, _), (8, _), (7, _), (6, _), (5, _), (4, _), (3, _), (0, _), (1, _), (2, _)] dL_text_503 (by decide) rfl rfl ?_
              refine g_iload X dL_text_505 0 rfl rfl ?_
              refine g_if_eq X dL_text_507 513 (by decide) rfl (fun h507 => absurd h507 (by decide)) (fun h507 => ?_)
              refine g_iinc (v := nI (((((0 + 1) + 1) + 1) + 1) + 1)) X [(18, _), (19, _), (16, _), (15, _), (13, _), (12, _), (11, _), (10, _), (9, _), (8, _), (7, _), (6, _), (5, _), (4, _), (3, _), (0, _), (1, _), (2, _)] dL_text_510 1 rfl (nI_add ((((0 + 1) + 1) + 1) + 1) 1) (by decide) rfl rfl ?_
              refine g_iload X dL_text_513 1 rfl rfl ?_
              refine g_if_eq X dL_text_515 531 (by decide) rfl (fun h515 => absurd h515 (by decide)) (fun h515 => ?_)
              refine g_aload_n X dL_text_518 rfl 15 rfl rfl ?_
              refine g_iload X dL_text_519 10 rfl rfl ?_
              refine g_callVXs (n := 1) (As := [_]) (rest := []) X hAg rfl (c_X6_takeBack l D a fT naT wT td vl2 0 p2 fl2 kd2 kpT pqT ps mkT nT bT hWT hNRT hFT hkpT hHLT.hq _) gL_text_X6_takeBack rfl (by decide +kernel) ⟨Nat.le_of_ble_eq_true rfl, Nat.le_of_ble_eq_true rfl⟩ 20 rfl rfl rfl rfl (Nat.le_of_ble_eq_true rfl) dL_text_521 ⟨Nat.le_of_ble_eq_true rfl, Nat.le_of_ble_eq_true rfl⟩ rfl (fun v w9 hv => ?_)
              obtain ⟨rfl, fV, naV, wV, kpV, pqV, efV, hNV, hAV, hkpV, hHLV, ekV, rfl⟩ := ch_out hv hkpT hHLT hFT ⟨_, hNRT, hn8T⟩
              have hADV := hAV.trans hADT
              refine ⟨hAV, ?_⟩
              refine g_st (st' := [_]) rfl ?_
              obtain ⟨mkV, nV, bV, hWV⟩ : WFx fV := by rw [efV]; exact take_ok ⟨mkT, nT, bT, hWT⟩
              have hSV : SI (cr + 1) fV := by rw [efV]; exact take_si hWT hST (by omega)
              have hNRV := hNV.to hWV
              have hFV : FB fV := by rw [efV]; exact take_fb ⟨mkT, nT, bT, hWT⟩ hFT
              obtain ⟨hmkV, hm40V, hn8V, hb0V, hb0V1, hb0V8, hn8Vb, hstV, hnoV, howV, hdoV, hb0Va, hb0Vc, hb0Vd, hb0Vz⟩ := id hWV
              have hm8V : nV ≤ 8 := by omega
              obtain ⟨eN1V, eN2V, -⟩ := hWV.N
              refine g_if_lt X dL_text_524 531 (by decide) rfl (fun h524 => ?_) (fun h524 => ?_)
              · refine g_iconst (v := (0 : Int32)) X dL_text_531 (by decide) rfl ?_
                refine g_istore X [(19, _), (18, _), (16, _), (15, _), (13, _), (12, _), (11, _), (10, _), (9, _), (8, _), (7, _), (6, _), (5, _), (4, _), (3, _), (0, _), (1, _), (2, _)] dL_text_532 (by decide) rfl rfl ?_
                refine g_iload X dL_text_534 0 rfl rfl ?_
                refine g_if_eq X dL_text_536 542 (by decide) rfl (fun h536 => ?_) (fun h536 => absurd h536 (by decide))
                have etx : txI (txL u3 u12 u23 (1 + u35) u44 u54 (1 + u66) u77 u88 e9) 0 f = ((((((0 + 1) + 1) + 1) + 1) + 1), fV) := by rw [txL, txI, if_pos (Int32.not_lt.mp h354), ← efP, txI, if_pos (Int32.not_lt.mp h388), ← efQ, txI, if_pos (Int32.not_lt.mp h421), ← efR, txI, if_pos (Int32.not_lt.mp h454), ← efS, txI, if_pos (Int32.not_lt.mp h495), ← efT, txI, if_neg (Int32.not_le.mpr h524), ← efV]
                have e1 : mny = (((((0 + 1) + 1) + 1) + 1) + 1) := by rw [← hmny, etx]
                have e2 : fC = fV := by rw [← hfC, etx]
                refine g_iload X dL_text_542 1 rfl rfl ?_
                refine g_iload X dL_text_544 3 rfl rfl ?_
                refine g_icmp_ne X dL_text_546 563 (by decide) rfl (fun h546 => absurd (nj_ne (a := (((((0 + 1) + 1) + 1) + 1) + 1)) (b := mny) (by omega) (by omega) h546) (by omega)) (fun h546 => ?_)
                have i546 := nj_eq (a := (((((0 + 1) + 1) + 1) + 1) + 1)) (b := mny) (by omega) (by omega) h546
                refine g_aload_n X dL_text_549 rfl 15 rfl rfl ?_
                refine g_callSRX (w0 := []) (n := 1) (As := [_]) (rest := []) X (c_L_print l D a fV naV wV td vl2 0 p2 fl2 kd2 kpV (fqa pqV) (fqa ps) (tlW D pqV ps) mkV nV bV hWV hNRV) gL_text_L_print rfl (by decide +kernel) ⟨Nat.le_of_ble_eq_true rfl, Nat.le_of_ble_eq_true rfl⟩ rfl rfl rfl (Nat.le_of_ble_eq_true rfl) dL_text_550 ⟨Nat.le_of_ble_eq_true rfl, Nat.le_of_ble_eq_true rfl⟩ rfl (fun v hv => ?_)
                obtain rfl := hv
                refine g_st (st' := [_]) rfl ?_
                refine g_lload X dL_text_553 2 rfl rfl ?_
                refine g_topl ((show prS fC = prS fV from by rw [e2])) ?_
                refine g_lcmp X dL_text_555 rfl ?_
                refine g_if_ne X dL_text_556 563 (by decide) rfl (fun h556 => absurd (lg_self _) h556) (fun h556 => ?_)
                refine g_iconst (v := (1 : Int32)) X dL_text_559 (by decide) rfl ?_
                refine g_goto X dL_text_560 564 (by decide) ?_
                refine g_retW X hr (by first | rfl | exact b2i_nar _) dL_text_564 hAe ?_
                exact ⟨rfl, fV, naV, wV, td, vl2, 0, p2, fl2, kd2, kpV, pqV, ⟨⟨_, _, _, hWV⟩, ⟨_, hNRV, hn8V⟩, hFV, hSV, (Nat.zero_le _), (fun k hk => absurd hk (Nat.not_lt_zero k)), hkpV, _, hHLV⟩, hADV, rfl⟩
              · refine g_iconst (v := (1 : Int32)) X dL_text_527 (by decide) rfl ?_
                refine g_goto X dL_text_528 532 (by decide) ?_
                refine g_istore X [(19, _), (18, _), (16, _), (15, _), (13, _), (12, _), (11, _), (10, _), (9, _), (8, _), (7, _), (6, _), (5, _), (4, _), (3, _), (0, _), (1, _), (2, _)] dL_text_532 (by decide) rfl rfl ?_
                refine g_iload X dL_text_534 0 rfl rfl ?_
                refine g_if_eq X dL_text_536 542 (by decide) rfl (fun h536 => absurd h536 (by decide)) (fun h536 => ?_)
                refine g_iinc (v := nI ((((((0 + 1) + 1) + 1) + 1) + 1) + 1)) X [(18, _), (19, _), (16, _), (15, _), (13, _), (12, _), (11, _), (10, _), (9, _), (8, _), (7, _), (6, _), (5, _), (4, _), (3, _), (0, _), (1, _), (2, _)] dL_text_539 1 rfl (nI_add (((((0 + 1) + 1) + 1) + 1) + 1) 1) (by decide) rfl rfl ?_
                have etx : txI (txL u3 u12 u23 (1 + u35) u44 u54 (1 + u66) u77 u88 e9) 0 f = (((((((0 + 1) + 1) + 1) + 1) + 1) + 1), fV) := by rw [txL, txI, if_pos (Int32.not_lt.mp h354), ← efP, txI, if_pos (Int32.not_lt.mp h388), ← efQ, txI, if_pos (Int32.not_lt.mp h421), ← efR, txI, if_pos (Int32.not_lt.mp h454), ← efS, txI, if_pos (Int32.not_lt.mp h495), ← efT, txI, if_pos (Int32.not_lt.mp h524), ← efV, txI]
                have e1 : mny = ((((((0 + 1) + 1) + 1) + 1) + 1) + 1) := by rw [← hmny, etx]
                have e2 : fC = fV := by rw [← hfC, etx]
                refine g_iload X dL_text_542 0 rfl rfl ?_
                refine g_iload X dL_text_544 3 rfl rfl ?_
                refine g_icmp_ne X dL_text_546 563 (by decide) rfl (fun h546 => absurd (nj_ne (a := ((((((0 + 1) + 1) + 1) + 1) + 1) + 1)) (b := mny) (by omega) (by omega) h546) (by omega)) (fun h546 => ?_)
                have i546 := nj_eq (a := ((((((0 + 1) + 1) + 1) + 1) + 1) + 1)) (b := mny) (by omega) (by omega) h546
                refine g_aload_n X dL_text_549 rfl 15 rfl rfl ?_
                refine g_callSRX (w0 := []) (n := 1) (As := [_]) (rest := []) X (c_L_print l D a fV naV wV td vl2 0 p2 fl2 kd2 kpV (fqa pqV) (fqa ps) (tlW D pqV ps) mkV nV bV hWV hNRV) gL_text_L_print rfl (by decide +kernel) ⟨Nat.le_of_ble_eq_true rfl, Nat.le_of_ble_eq_true rfl⟩ rfl rfl rfl (Nat.le_of_ble_eq_true rfl) dL_text_550 ⟨Nat.le_of_ble_eq_true rfl, Nat.le_of_ble_eq_true rfl⟩ rfl (fun v hv => ?_)
                obtain rfl := hv
                refine g_st (st' := [_]) rfl ?_
                refine g_lload X dL_text_553 2 rfl rfl ?_
                refine g_topl ((show prS fC = prS fV from by rw [e2])) ?_
                refine g_lcmp X dL_text_555 rfl ?_
                refine g_if_ne X dL_text_556 563 (by decide) rfl (fun h556 => absurd (lg_self _) h556) (fun h556 => ?_)
                refine g_iconst (v := (1 : Int32)) X dL_text_559 (by decide) rfl ?_
                refine g_goto X dL_text_560 564 (by decide) ?_
                refine g_retW X hr (by first | rfl | exact b2i_nar _) dL_text_564 hAe ?_
                exact ⟨rfl, fV, naV, wV, td, vl2, 0, p2, fl2, kd2, kpV, pqV, ⟨⟨_, _, _, hWV⟩, ⟨_, hNRV, hn8V⟩, hFV, hSV, (Nat.zero_le _), (fun k hk => absurd hk (Nat.not_lt_zero k)), hkpV, _, hHLV⟩, hADV, rfl⟩

set_option maxHeartbeats 4000000 in
set_option maxRecDepth 100000 in
theorem c_L_text (l : Launch) (D : DT) (a : Nat → Nat) (f : Nat → Int32) (na : Nat → Nat → Int32) (w td vl : Nat → Int32) (L pt fl : Nat) (kd : Int32) (kp : Nat) (pq ps : Nat → Option HH) (mk n b : Nat) (hW : WF f mk n b) (hNR : NR f na n) (hF : FB f) (hkp : kp ≤ 6) (l9 : List (Nat → Int32)) (hHL : HL kp pq l9) (cr : Nat) (hcr : cr ≤ 1000) (hS : SI cr f) (hL : L ≤ 80) (hch : ∀ k, k < L → ∃ ch : Nat, ch < 256 ∧ td k = nI ch) (x y : Int32) : MW l yL_text wsL_text 8 179 112 2380 D [.ref (a 19), .int (x), .int (y)] (wB D a f na w td vl L pt fl kd kp (fqa pq) (fqa ps) (tlW D pq ps)) (lwP D a ps (wB D a f na w td vl L pt fl kd kp (fqa pq) (fqa ps) (tlW D pq ps)) (cr + 1)) := by
  obtain ⟨hmk, hm40, hn8, hb0, hb01, hb08, hn8b, hst, hno, how, hdo, hb0a, hb0c, hb0d, hb0z⟩ := id hW
  have hm8 : n ≤ 8 := by omega
  obtain ⟨eN1, eN2, -⟩ := hW.N
  refine MW.of (cc := cL_text) (maxL := 20) (ret := (some .boolean)) (lv := [(0, .ref (a 19)), (1, .int (x)), (2, .int (y))]) (by decide +kernel) rfl (Nat.le_of_ble_eq_true rfl) rfl ?_
  intro p e s m below meth c A hAe hAg X hr hmn
  refine g_iload_n X dL_text_0 rfl 1 rfl rfl ?_
  refine g_bipush (v := (10 : Int32)) X dL_text_1 (by decide) rfl ?_
  refine g_callSR (n := 2) (As := [_, _]) (rest := []) X (c_L_up l D (x) 10 (by omega)) gL_text_L_up rfl (by decide +kernel) ⟨Nat.le_of_ble_eq_true rfl, Nat.le_of_ble_eq_true rfl⟩ [] rfl rfl rfl rfl (Nat.le_of_ble_eq_true rfl) dL_text_3 ⟨Nat.le_of_ble_eq_true rfl, Nat.le_of_ble_eq_true rfl⟩ rfl (fun v hv => ?_)
  obtain rfl := hv
  refine g_st (st' := [_]) rfl ?_
  refine g_upn (by omega) (fun u3 hu3 eu3 => ?_)
  refine g_istore_n X [(3, _), (0, _), (1, _), (2, _)] dL_text_6 rfl (by decide) rfl rfl ?_
  refine g_iload_n X dL_text_7 rfl 2 rfl rfl ?_
  refine g_iconst (v := (4 : Int32)) X dL_text_8 (by decide) rfl ?_
  refine g_ishr X dL_text_9 rfl ?_
  refine g_bipush (v := (6 : Int32)) X dL_text_10 (by decide) rfl ?_
  refine g_callSR (n := 2) (As := [_, _]) (rest := []) X (c_L_up l D ((x >>> ((4 : Int32) &&& 31))) 6 (by omega)) gL_text_L_up rfl (by decide +kernel) ⟨Nat.le_of_ble_eq_true rfl, Nat.le_of_ble_eq_true rfl⟩ [] rfl rfl rfl rfl (Nat.le_of_ble_eq_true rfl) dL_text_12 ⟨Nat.le_of_ble_eq_true rfl, Nat.le_of_ble_eq_true rfl⟩ rfl (fun v hv => ?_)
  obtain rfl := hv
  refine g_st (st' := [_]) rfl ?_
  refine g_upn (by omega) (fun u12 hu12 eu12 => ?_)
  refine g_istore X [(4, _), (3, _), (0, _), (1, _), (2, _)] dL_text_15 (by decide) rfl rfl ?_
  refine g_iload_n X dL_text_17 rfl 3 rfl rfl ?_
  refine g_bipush (v := (7 : Int32)) X dL_text_18 (by decide) rfl ?_
  refine g_ishr X dL_text_20 rfl ?_
  refine g_bipush (v := (6 : Int32)) X dL_text_21 (by decide) rfl ?_
  refine g_callSR (n := 2) (As := [_, _]) (rest := []) X (c_L_up l D ((x >>> ((7 : Int32) &&& 31))) 6 (by omega)) gL_text_L_up rfl (by decide +kernel) ⟨Nat.le_of_ble_eq_true rfl, Nat.le_of_ble_eq_true rfl⟩ [] rfl rfl rfl rfl (Nat.le_of_ble_eq_true rfl) dL_text_23 ⟨Nat.le_of_ble_eq_true rfl, Nat.le_of_ble_eq_true rfl⟩ rfl (fun v hv => ?_)
  obtain rfl := hv
  refine g_st (st' := [_]) rfl ?_
  refine g_upn (by omega) (fun u23 hu23 eu23 => ?_)
  refine g_istore X [(5, _), (4, _), (3, _), (0, _), (1, _), (2, _)] dL_text_26 (by decide) rfl rfl ?_
  refine g_iconst (v := (1 : Int32)) X dL_text_28 (by decide) rfl ?_
  refine g_iload_n X dL_text_29 rfl 4 rfl rfl ?_
  refine g_bipush (v := (10 : Int32)) X dL_text_30 (by decide) rfl ?_
  refine g_ishr X dL_text_32 rfl ?_
  refine g_bipush (v := (7 : Int32)) X dL_text_33 (by decide) rfl ?_
  refine g_callSR (n := 2) (As := [_, _]) (rest := [_]) X (c_L_up l D ((x >>> ((10 : Int32) &&& 31))) 7 (by omega)) gL_text_L_up rfl (by decide +kernel) ⟨Nat.le_of_ble_eq_true rfl, Nat.le_of_ble_eq_true rfl⟩ [] rfl rfl rfl rfl (Nat.le_of_ble_eq_true rfl) dL_text_35 ⟨Nat.le_of_ble_eq_true rfl, Nat.le_of_ble_eq_true rfl⟩ rfl (fun v hv => ?_)
  obtain rfl := hv
  refine g_st (st' := [_, _]) rfl ?_
  refine g_upn (by omega) (fun u35 hu35 eu35 => ?_)
  refine g_iadd X dL_text_38 rfl ?_
  refine g_topi (y := nI (1 + u35)) (nI_add 1 u35) ?_
  refine g_istore X [(6, _), (5, _), (4, _), (3, _), (0, _), (1, _), (2, _)] dL_text_39 (by decide) rfl rfl ?_
  refine g_iload_n X dL_text_41 rfl 6 rfl rfl ?_
  refine g_bipush (v := (10 : Int32)) X dL_text_42 (by decide) rfl ?_
  refine g_callSR (n := 2) (As := [_, _]) (rest := []) X (c_L_up l D (y) 10 (by omega)) gL_text_L_up rfl (by decide +kernel) ⟨Nat.le_of_ble_eq_true rfl, Nat.le_of_ble_eq_true rfl⟩ [] rfl rfl rfl rfl (Nat.le_of_ble_eq_true rfl) dL_text_44 ⟨Nat.le_of_ble_eq_true rfl, Nat.le_of_ble_eq_true rfl⟩ rfl (fun v hv => ?_)
  obtain rfl := hv
  refine g_st (st' := [_]) rfl ?_
  refine g_upn (by omega) (fun u44 hu44 eu44 => ?_)
  refine g_istore X [(7, _), (6, _), (5, _), (4, _), (3, _), (0, _), (1, _), (2, _)] dL_text_47 (by decide) rfl rfl ?_
  refine g_iload_n X dL_text_49 rfl 7 rfl rfl ?_
  refine g_iconst (v := (4 : Int32)) X dL_text_50 (by decide) rfl ?_
  refine g_ishr X dL_text_51 rfl ?_
  refine g_bipush (v := (6 : Int32)) X dL_text_52 (by decide) rfl ?_
  refine g_callSR (n := 2) (As := [_, _]) (rest := []) X (c_L_up l D ((y >>> ((4 : Int32) &&& 31))) 6 (by omega)) gL_text_L_up rfl (by decide +kernel) ⟨Nat.le_of_ble_eq_true rfl, Nat.le_of_ble_eq_true rfl⟩ [] rfl rfl rfl rfl (Nat.le_of_ble_eq_true rfl) dL_text_54 ⟨Nat.le_of_ble_eq_true rfl, Nat.le_of_ble_eq_true rfl⟩ rfl (fun v hv => ?_)
  obtain rfl := hv
  refine g_st (st' := [_]) rfl ?_
  refine g_upn (by omega) (fun u54 hu54 eu54 => ?_)
  refine g_istore X [(8, _), (7, _), (6, _), (5, _), (4, _), (3, _), (0, _), (1, _), (2, _)] dL_text_57 (by decide) rfl rfl ?_
  refine g_iconst (v := (1 : Int32)) X dL_text_59 (by decide) rfl ?_
  refine g_iload_n X dL_text_60 rfl 8 rfl rfl ?_
  refine g_bipush (v := (7 : Int32)) X dL_text_61 (by decide) rfl ?_
  refine g_ishr X dL_text_63 rfl ?_
  refine g_bipush (v := (7 : Int32)) X dL_text_64 (by decide) rfl ?_
  refine g_callSR (n := 2) (As := [_, _]) (rest := [_]) X (c_L_up l D ((y >>> ((7 : Int32) &&& 31))) 7 (by omega)) gL_text_L_up rfl (by decide +kernel) ⟨Nat.le_of_ble_eq_true rfl, Nat.le_of_ble_eq_true rfl⟩ [] rfl rfl rfl rfl (Nat.le_of_ble_eq_true rfl) dL_text_66 ⟨Nat.le_of_ble_eq_true rfl, Nat.le_of_ble_eq_true rfl⟩ rfl (fun v hv => ?_)
  obtain rfl := hv
  refine g_st (st' := [_, _]) rfl ?_
  refine g_upn (by omega) (fun u66 hu66 eu66 => ?_)
  refine g_iadd X dL_text_69 rfl ?_
  refine g_topi (y := nI (1 + u66)) (nI_add 1 u66) ?_
  refine g_istore X [(9, _), (8, _), (7, _), (6, _), (5, _), (4, _), (3, _), (0, _), (1, _), (2, _)] dL_text_70 (by decide) rfl rfl ?_
  refine g_iload_n X dL_text_72 rfl 9 rfl rfl ?_
  refine g_bipush (v := (10 : Int32)) X dL_text_73 (by decide) rfl ?_
  refine g_ishr X dL_text_75 rfl ?_
  refine g_iconst (v := (3 : Int32)) X dL_text_76 (by decide) rfl ?_
  refine g_callSR (n := 2) (As := [_, _]) (rest := []) X (c_L_up l D ((y >>> ((10 : Int32) &&& 31))) 3 (by omega)) gL_text_L_up rfl (by decide +kernel) ⟨Nat.le_of_ble_eq_true rfl, Nat.le_of_ble_eq_true rfl⟩ [] rfl rfl rfl rfl (Nat.le_of_ble_eq_true rfl) dL_text_77 ⟨Nat.le_of_ble_eq_true rfl, Nat.le_of_ble_eq_true rfl⟩ rfl (fun v hv => ?_)
  obtain rfl := hv
  refine g_st (st' := [_]) rfl ?_
  refine g_upn (by omega) (fun u77 hu77 eu77 => ?_)
  refine g_istore X [(10, _), (9, _), (8, _), (7, _), (6, _), (5, _), (4, _), (3, _), (0, _), (1, _), (2, _)] dL_text_80 (by decide) rfl rfl ?_
  refine g_iload_n X dL_text_82 rfl 10 rfl rfl ?_
  refine g_bipush (v := (12 : Int32)) X dL_text_83 (by decide) rfl ?_
  refine g_ishr X dL_text_85 rfl ?_
  refine g_bipush (v := (10 : Int32)) X dL_text_86 (by decide) rfl ?_
  refine g_callSR (n := 2) (As := [_, _]) (rest := []) X (c_L_up l D ((y >>> ((12 : Int32) &&& 31))) 10 (by omega)) gL_text_L_up rfl (by decide +kernel) ⟨Nat.le_of_ble_eq_true rfl, Nat.le_of_ble_eq_true rfl⟩ [] rfl rfl rfl rfl (Nat.le_of_ble_eq_true rfl) dL_text_88 ⟨Nat.le_of_ble_eq_true rfl, Nat.le_of_ble_eq_true rfl⟩ rfl (fun v hv => ?_)
  obtain rfl := hv
  refine g_st (st' := [_]) rfl ?_
  refine g_upn (by omega) (fun u88 hu88 eu88 => ?_)
  refine g_istore X [(11, _), (10, _), (9, _), (8, _), (7, _), (6, _), (5, _), (4, _), (3, _), (0, _), (1, _), (2, _)] dL_text_91 (by decide) rfl rfl ?_
  refine g_iload_n X dL_text_93 rfl 11 rfl rfl ?_
  refine g_bipush (v := (16 : Int32)) X dL_text_94 (by decide) rfl ?_
  refine g_ishr X dL_text_96 rfl ?_
  refine g_iconst (v := (2 : Int32)) X dL_text_97 (by decide) rfl ?_
  refine g_callSR (n := 2) (As := [_, _]) (rest := []) X (c_L_up l D ((y >>> ((16 : Int32) &&& 31))) 2 (by omega)) gL_text_L_up rfl (by decide +kernel) ⟨Nat.le_of_ble_eq_true rfl, Nat.le_of_ble_eq_true rfl⟩ [] rfl rfl rfl rfl (Nat.le_of_ble_eq_true rfl) dL_text_98 ⟨Nat.le_of_ble_eq_true rfl, Nat.le_of_ble_eq_true rfl⟩ rfl (fun v hv => ?_)
  obtain rfl := hv
  refine g_st (st' := [_]) rfl ?_
  refine g_upn (by omega) (fun u98 hu98 eu98 => ?_)
  refine g_if_ne X dL_text_101 108 (by decide) rfl (fun h101 => ?_) (fun h101 => ?_)
  · have i101 := nj_ne (a := u98) (b := 0) (by omega) (by omega) h101
    refine g_iconst (v := (0 : Int32)) X dL_text_108 (by decide) rfl ?_
    refine g_istore X [(12, _), (11, _), (10, _), (9, _), (8, _), (7, _), (6, _), (5, _), (4, _), (3, _), (0, _), (1, _), (2, _)] dL_text_109 (by decide) rfl rfl ?_
    refine g_aload_n X dL_text_111 rfl 10 rfl rfl ?_
    refine g_callVXs (n := 0) (As := []) (rest := []) X hAg rfl (c_X6_wipe l D a f na w td vl L pt fl kd kp (fqa pq) (fqa ps) (tlW D pq ps) hL) gL_text_X6_wipe rfl (by decide +kernel) ⟨Nat.le_of_ble_eq_true rfl, Nat.le_of_ble_eq_true rfl⟩ 20 rfl rfl rfl rfl (Nat.le_of_ble_eq_true rfl) dL_text_112 ⟨Nat.le_of_ble_eq_true rfl, Nat.le_of_ble_eq_true rfl⟩ rfl (fun v w9 hv => ?_)
    obtain ⟨rfl, rfl⟩ := hv
    refine ⟨AD.rf rfl, ?_⟩
    refine g_st (st' := [_]) rfl ?_
    refine g_pop X dL_text_115 rfl rfl ?_
    refine g_aload_n X dL_text_116 rfl 10 rfl rfl ?_
    refine g_bipush (v := (111 : Int32)) X dL_text_117 (by decide) rfl ?_
    refine g_bipush (v := (48 : Int32)) X dL_text_119 (by decide) rfl ?_
    refine g_iload_n X dL_text_121 rfl 9 rfl rfl ?_
    refine g_iadd X dL_text_122 rfl ?_
    refine g_topi (y := nI (48 + u3)) (nI_add 48 u3) ?_
    refine g_bipush (v := (61 : Int32)) X dL_text_123 (by decide) rfl ?_
    refine g_bipush (v := (48 : Int32)) X dL_text_125 (by decide) rfl ?_
    refine g_iload X dL_text_127 8 rfl rfl ?_
    refine g_iadd X dL_text_129 rfl ?_
    refine g_topi (y := nI (48 + u12)) (nI_add 48 u12) ?_
    refine g_bipush (v := (59 : Int32)) X dL_text_130 (by decide) rfl ?_
    refine g_bipush (v := (115 : Int32)) X dL_text_132 (by decide) rfl ?_
    refine g_bipush (v := (48 : Int32)) X dL_text_134 (by decide) rfl ?_
    refine g_iload X dL_text_136 8 rfl rfl ?_
    refine g_iadd X dL_text_138 rfl ?_
    refine g_topi (y := nI (48 + u12)) (nI_add 48 u12) ?_
    refine g_bipush (v := (62 : Int32)) X dL_text_139 (by decide) rfl ?_
    refine g_callSXs (n := 9) (As := [_, _, _, _, _, _, _, _, _]) (rest := []) X hAg rfl (c_L_type8 l D a f na w td vl 0 pt fl kd kp (fqa pq) (fqa ps) (tlW D pq ps) [] HT_0 rfl (Nat.le_of_ble_eq_true rfl) 111 (48 + u3) 61 (48 + u12) 59 115 (48 + u12) 62 (by omega) (by omega) (by omega) (by omega) (by omega) (by omega) (by omega) (by omega)) gL_text_L_type rfl (by decide +kernel) ⟨Nat.le_of_ble_eq_true rfl, Nat.le_of_ble_eq_true rfl⟩ rfl rfl (Nat.le_of_ble_eq_true rfl) dL_text_141 ⟨Nat.le_of_ble_eq_true rfl, Nat.le_of_ble_eq_true rfl⟩ rfl (fun v w9 hv => ?_)
    obtain ⟨rfl, td141, hT141, rfl⟩ := hv
    refine ⟨AD.rf rfl, ?_⟩
    refine g_st (st' := [_]) rfl ?_
    refine g_if_eq X dL_text_144 289 (by decide) rfl (fun h144 => absurd h144 (by decide)) (fun h144 => ?_)
    refine g_aload_n X dL_text_147 rfl 10 rfl rfl ?_
    refine g_bipush (v := (48 : Int32)) X dL_text_148 (by decide) rfl ?_
    refine g_iload X dL_text_150 7 rfl rfl ?_
    refine g_iadd X dL_text_152 rfl ?_
    refine g_topi (y := nI (48 + u23)) (nI_add 48 u23) ?_
    refine g_bipush (v := (58 : Int32)) X dL_text_153 (by decide) rfl ?_
    refine g_bipush (v := (48 : Int32)) X dL_text_155 (by decide) rfl ?_
    refine g_iload_n X dL_text_157 rfl 9 rfl rfl ?_
    refine g_iadd X dL_text_158 rfl ?_
    refine g_topi (y := nI (48 + u3)) (nI_add 48 u3) ?_
    refine g_bipush (v := (42 : Int32)) X dL_text_159 (by decide) rfl ?_
    refine g_bipush (v := (48 : Int32)) X dL_text_161 (by decide) rfl ?_
    refine g_iload X dL_text_163 6 rfl rfl ?_
    refine g_iadd X dL_text_165 rfl ?_
    refine g_topi (y := nI (48 + (1 + u35))) (nI_add 48 (1 + u35)) ?_
    refine g_bipush (v := (59 : Int32)) X dL_text_166 (by decide) rfl ?_
    refine g_bipush (v := (112 : Int32)) X dL_text_168 (by decide) rfl ?_
    refine g_bipush (v := (48 : Int32)) X dL_text_170 (by decide) rfl ?_
    refine g_iload X dL_text_172 5 rfl rfl ?_
    refine g_iadd X dL_text_174 rfl ?_
    refine g_topi (y := nI (48 + u44)) (nI_add 48 u44) ?_
    refine g_callSXs (n := 9) (As := [_, _, _, _, _, _, _, _, _]) (rest := []) X hAg rfl (c_L_type8 l D a f na w td141 vl (0 + 8) pt fl kd kp (fqa pq) (fqa ps) (tlW D pq ps) ([] ++ [111, (48 + u3), 61, (48 + u12), 59, 115, (48 + u12), 62]) hT141 rfl (Nat.le_of_ble_eq_true rfl) (48 + u23) 58 (48 + u3) 42 (48 + (1 + u35)) 59 112 (48 + u44) (by omega) (by omega) (by omega) (by omega) (by omega) (by omega) (by omega) (by omega)) gL_text_L_type rfl (by decide +kernel) ⟨Nat.le_of_ble_eq_true rfl, Nat.le_of_ble_eq_true rfl⟩ rfl rfl (Nat.le_of_ble_eq_true rfl) dL_text_175 ⟨Nat.le_of_ble_eq_true rfl, Nat.le_of_ble_eq_true rfl⟩ rfl (fun v w9 hv => ?_)
    obtain ⟨rfl, td175, hT175, rfl⟩ := hv
    refine ⟨AD.rf rfl, ?_⟩
    refine g_st (st' := [_]) rfl ?_
    refine g_if_eq X dL_text_178 289 (by decide) rfl (fun h178 => absurd h178 (by decide)) (fun h178 => ?_)
    refine g_aload_n X dL_text_181 rfl 10 rfl rfl ?_
    refine g_bipush (v := (62 : Int32)) X dL_text_182 (by decide) rfl ?_
    refine g_bipush (v := (48 : Int32)) X dL_text_184 (by decide) rfl ?_
    refine g_iload X dL_text_186 4 rfl rfl ?_
    refine g_iadd X dL_text_188 rfl ?_
    refine g_topi (y := nI (48 + u54)) (nI_add 48 u54) ?_
    refine g_bipush (v := (42 : Int32)) X dL_text_189 (by decide) rfl ?_
    refine g_bipush (v := (48 : Int32)) X dL_text_191 (by decide) rfl ?_
    refine g_iload X dL_text_193 3 rfl rfl ?_
    refine g_iadd X dL_text_195 rfl ?_
    refine g_topi (y := nI (48 + (1 + u66))) (nI_add 48 (1 + u66)) ?_
    refine g_bipush (v := (59 : Int32)) X dL_text_196 (by decide) rfl ?_
    refine g_bipush (v := (100 : Int32)) X dL_text_198 (by decide) rfl ?_
    refine g_bipush (v := (48 : Int32)) X dL_text_200 (by decide) rfl ?_
    refine g_iload X dL_text_202 4 rfl rfl ?_
    refine g_iadd X dL_text_204 rfl ?_
    refine g_topi (y := nI (48 + u54)) (nI_add 48 u54) ?_
    refine g_bipush (v := (46 : Int32)) X dL_text_205 (by decide) rfl ?_
    refine g_callSXs (n := 9) (As := [_, _, _, _, _, _, _, _, _]) (rest := []) X hAg rfl (c_L_type8 l D a f na w td175 vl (0 + 8 + 8) pt fl kd kp (fqa pq) (fqa ps) (tlW D pq ps) (([] ++ [111, (48 + u3), 61, (48 + u12), 59, 115, (48 + u12), 62]) ++ [(48 + u23), 58, (48 + u3), 42, (48 + (1 + u35)), 59, 112, (48 + u44)]) hT175 rfl (Nat.le_of_ble_eq_true rfl) 62 (48 + u54) 42 (48 + (1 + u66)) 59 100 (48 + u54) 46 (by omega) (by omega) (by omega) (by omega) (by omega) (by omega) (by omega) (by omega)) gL_text_L_type rfl (by decide +kernel) ⟨Nat.le_of_ble_eq_true rfl, Nat.le_of_ble_eq_true rfl⟩ rfl rfl (Nat.le_of_ble_eq_true rfl) dL_text_207 ⟨Nat.le_of_ble_eq_true rfl, Nat.le_of_ble_eq_true rfl⟩ rfl (fun v w9 hv => ?_)
    obtain ⟨rfl, td207, hT207, rfl⟩ := hv
    refine ⟨AD.rf rfl, ?_⟩
    refine g_st (st' := [_]) rfl ?_
    refine g_if_eq X dL_text_210 289 (by decide) rfl (fun h210 => absurd h210 (by decide)) (fun h210 => ?_)
    refine g_aload_n X dL_text_213 rfl 10 rfl rfl ?_
    refine g_bipush (v := (48 : Int32)) X dL_text_214 (by decide) rfl ?_
    refine g_iload X dL_text_216 2 rfl rfl ?_
    refine g_iadd X dL_text_218 rfl ?_
    refine g_topi (y := nI (48 + u77)) (nI_add 48 u77) ?_
    refine g_bipush (v := (61 : Int32)) X dL_text_219 (by decide) rfl ?_
    refine g_bipush (v := (48 : Int32)) X dL_text_221 (by decide) rfl ?_
    refine g_iload X dL_text_223 1 rfl rfl ?_
    refine g_iadd X dL_text_225 rfl ?_
    refine g_topi (y := nI (48 + u88)) (nI_add 48 u88) ?_
    refine g_bipush (v := (59 : Int32)) X dL_text_226 (by decide) rfl ?_
    refine g_bipush (v := (63 : Int32)) X dL_text_228 (by decide) rfl ?_
    refine g_bipush (v := (48 : Int32)) X dL_text_230 (by decide) rfl ?_
    refine g_iload X dL_text_232 4 rfl rfl ?_
    refine g_iadd X dL_text_234 rfl ?_
    refine g_topi (y := nI (48 + u54)) (nI_add 48 u54) ?_
    refine g_bipush (v := (46 : Int32)) X dL_text_235 (by decide) rfl ?_
    refine g_bipush (v := (48 : Int32)) X dL_text_237 (by decide) rfl ?_
    refine g_iload X dL_text_239 2 rfl rfl ?_
    refine g_iadd X dL_text_241 rfl ?_
    refine g_topi (y := nI (48 + u77)) (nI_add 48 u77) ?_
    refine g_callSXs (n := 9) (As := [_, _, _, _, _, _, _, _, _]) (rest := []) X hAg rfl (c_L_type8 l D a f na w td207 vl (0 + 8 + 8 + 8) pt fl kd kp (fqa pq) (fqa ps) (tlW D pq ps) ((([] ++ [111, (48 + u3), 61, (48 + u12), 59, 115, (48 + u12), 62]) ++ [(48 + u23), 58, (48 + u3), 42, (48 + (1 + u35)), 59, 112, (48 + u44)]) ++ [62, (48 + u54), 42, (48 + (1 + u66)), 59, 100, (48 + u54), 46]) hT207 rfl (Nat.le_of_ble_eq_true rfl) (48 + u77) 61 (48 + u88) 59 63 (48 + u54) 46 (48 + u77) (by omega) (by omega) (by omega) (by omega) (by omega) (by omega) (by omega) (by omega)) gL_text_L_type rfl (by decide +kernel) ⟨Nat.le_of_ble_eq_true rfl, Nat.le_of_ble_eq_true rfl⟩ rfl rfl (Nat.le_of_ble_eq_true rfl) dL_text_242 ⟨Nat.le_of_ble_eq_true rfl, Nat.le_of_ble_eq_true rfl⟩ rfl (fun v w9 hv => ?_)
    obtain ⟨rfl, td242, hT242, rfl⟩ := hv
    refine ⟨AD.rf rfl, ?_⟩
    refine g_st (st' := [_]) rfl ?_
    refine g_if_eq X dL_text_245 289 (by decide) rfl (fun h245 => absurd h245 (by decide)) (fun h245 => ?_)
    refine g_aload_n X dL_text_248 rfl 10 rfl rfl ?_
    refine g_iload X dL_text_249 0 rfl rfl ?_
    refine g_if_eq X dL_text_251 259 (by decide) rfl (fun h251 => ?_) (fun h251 => absurd h251 (by decide))
    refine g_bipush (v := (114 : Int32)) X dL_text_259 (by decide) rfl ?_
    refine g_bipush (v := (59 : Int32)) X dL_text_261 (by decide) rfl ?_
    refine g_bipush (v := (116 : Int32)) X dL_text_263 (by decide) rfl ?_
    refine g_bipush (v := (48 : Int32)) X dL_text_265 (by decide) rfl ?_
    refine g_iload X dL_text_267 5 rfl rfl ?_
    refine g_iadd X dL_text_269 rfl ?_
    refine g_topi (y := nI (48 + u44)) (nI_add 48 u44) ?_
    refine g_iconst (v := (0 : Int32)) X dL_text_270 (by decide) rfl ?_
    refine g_iconst (v := (0 : Int32)) X dL_text_271 (by decide) rfl ?_
    refine g_iconst (v := (0 : Int32)) X dL_text_272 (by decide) rfl ?_
    refine g_iconst (v := (0 : Int32)) X dL_text_273 (by decide) rfl ?_
    refine g_callSXs (n := 9) (As := [_, _, _, _, _, _, _, _, _]) (rest := []) X hAg rfl (c_L_type4 l D a f na w td242 vl (0 + 8 + 8 + 8 + 8) pt fl kd kp (fqa pq) (fqa ps) (tlW D pq ps) (((([] ++ [111, (48 + u3), 61, (48 + u12), 59, 115, (48 + u12), 62]) ++ [(48 + u23), 58, (48 + u3), 42, (48 + (1 + u35)), 59, 112, (48 + u44)]) ++ [62, (48 + u54), 42, (48 + (1 + u66)), 59, 100, (48 + u54), 46]) ++ [(48 + u77), 61, (48 + u88), 59, 63, (48 + u54), 46, (48 + u77)]) hT242 rfl (Nat.le_of_ble_eq_true rfl) 114 59 116 (48 + u44) (by omega) (by omega) (by omega) (by omega)) gL_text_L_type rfl (by decide +kernel) ⟨Nat.le_of_ble_eq_true rfl, Nat.le_of_ble_eq_true rfl⟩ rfl rfl (Nat.le_of_ble_eq_true rfl) dL_text_274 ⟨Nat.le_of_ble_eq_true rfl, Nat.le_of_ble_eq_true rfl⟩ rfl (fun v w9 hv => ?_)
    obtain ⟨rfl, td274, hT274, rfl⟩ := hv
    refine ⟨AD.rf rfl, ?_⟩
    refine g_st (st' := [_]) rfl ?_
    refine g_if_eq X dL_text_277 289 (by decide) rfl (fun h277 => absurd h277 (by decide)) (fun h277 => ?_)
    refine g_aload_n X dL_text_280 rfl 10 rfl rfl ?_
    have hT : HT td274 (txC u3 u12 u23 (1 + u35) u44 u54 (1 + u66) u77 u88 114) := hT274
    have hall : ∀ z ∈ txC u3 u12 u23 (1 + u35) u44 u54 (1 + u66) u77 u88 114, z < 256 := by
      intro z hz
      unfold txC at hz
      simp only [List.cons_append, List.nil_append, List.mem_cons, List.not_mem_nil, or_false] at hz
      omega
    have htx := tx_eq hT hu3 hu12 hu23 (by omega) hu44 hu54 (by omega) hu77 hu88 (e := 1) (by omega)
    refine g_callVXs (n := 0) (As := []) (rest := []) X hAg rfl (c_X6_fault l D a f na w td274 vl (0 + 8 + 8 + 8 + 8 + 4) pt fl kd kp (fqa pq) (fqa ps) (tlW D pq ps) (Nat.le_of_ble_eq_true rfl) (fun k hk => HT_ch hT hall k hk)) gL_text_X6_fault rfl (by decide +kernel) ⟨Nat.le_of_ble_eq_true rfl, Nat.le_of_ble_eq_true rfl⟩ 20 rfl rfl rfl rfl (Nat.le_of_ble_eq_true rfl) dL_text_281 ⟨Nat.le_of_ble_eq_true rfl, Nat.le_of_ble_eq_true rfl⟩ rfl (fun v w9 hv => ?_)
    obtain ⟨rfl, p9, f9, v9, k9, hp9, rfl⟩ := hv
    refine ⟨AD.rf rfl, ?_⟩
    refine g_st (st' := [_]) rfl ?_
    refine g_topi (htx.1 _ _) ?_
    refine g_bipush (v := ((-6) : Int32)) X dL_text_284 (by decide) rfl ?_
    refine g_icmp_eq X dL_text_286 291 (by decide) rfl (fun h286 => ?_) (fun h286 => absurd h286 (by decide))
    exact c_text_b l D a f na w td vl L pt fl kd kp pq ps mk n b hW hNR hF hkp l9 hHL cr hcr hS x y td274 v9 p9 f9 k9 u3 u12 u23 u35 u44 u54 u66 u77 u88 0 1 114 hu3 hu12 hu23 hu35 hu44 hu54 hu66 hu77 hu88 rfl (by omega) hT hAe hAg X hr
  · have i101 := nj_eq (a := u98) (b := 0) (by omega) (by omega) h101
    refine g_iconst (v := (1 : Int32)) X dL_text_104 (by decide) rfl ?_
    refine g_goto X dL_text_105 109 (by decide) ?_
    refine g_istore X [(12, _), (11, _), (10, _), (9, _), (8, _), (7, _), (6, _), (5, _), (4, _), (3, _), (0, _), (1, _), (2, _)] dL_text_109 (by decide) rfl rfl ?_
    refine g_aload_n X dL_text_111 rfl 10 rfl rfl ?_
    refine g_callVXs (n := 0) (As := []) (rest := []) X hAg rfl (c_X6_wipe l D a f na w td vl L pt fl kd kp (fqa pq) (fqa ps) (tlW D pq ps) hL) gL_text_X6_wipe rfl (by decide +kernel) ⟨Nat.le_of_ble_eq_true rfl, Nat.le_of_ble_eq_true rfl⟩ 20 rfl rfl rfl rfl (Nat.le_of_ble_eq_true rfl) dL_text_112 ⟨Nat.le_of_ble_eq_true rfl, Nat.le_of_ble_eq_true rfl⟩ rfl (fun v w9 hv => ?_)
    obtain ⟨rfl, rfl⟩ := hv
    refine ⟨AD.rf rfl, ?_⟩
    refine g_st (st' := [_]) rfl ?_
    refine g_pop X dL_text_115 rfl rfl ?_
    refine g_aload_n X dL_text_116 rfl 10 rfl rfl ?_
    refine g_bipush (v := (111 : Int32)) X dL_text_117 (by decide) rfl ?_
    refine g_bipush (v := (48 : Int32)) X dL_text_119 (by decide) rfl ?_
    refine g_iload_n X dL_text_121 rfl 9 rfl rfl ?_
    refine g_iadd X dL_text_122 rfl ?_
    refine g_topi (y := nI (48 + u3)) (nI_add 48 u3) ?_
    refine g_bipush (v := (61 : Int32)) X dL_text_123 (by decide) rfl ?_
    refine g_bipush (v := (48 : Int32)) X dL_text_125 (by decide) rfl ?_
    refine g_iload X dL_text_127 8 rfl rfl ?_
    refine g_iadd X dL_text_129 rfl ?_
    refine g_topi (y := nI (48 + u12)) (nI_add 48 u12) ?_
    refine g_bipush (v := (59 : Int32)) X dL_text_130 (by decide) rfl ?_
    refine g_bipush (v := (115 : Int32)) X dL_text_132 (by decide) rfl ?_
    refine g_bipush (v := (48 : Int32)) X dL_text_134 (by decide) rfl ?_
    refine g_iload X dL_text_136 8 rfl rfl ?_
    refine g_iadd X dL_text_138 rfl ?_
    refine g_topi (y := nI (48 + u12)) (nI_add 48 u12) ?_
    refine g_bipush (v := (62 : Int32)) X dL_text_139 (by decide) rfl ?_
    refine g_callSXs (n := 9) (As := [_, _, _, _, _, _, _, _, _]) (rest := []) X hAg rfl (c_L_type8 l D a f na w td vl 0 pt fl kd kp (fqa pq) (fqa ps) (tlW D pq ps) [] HT_0 rfl (Nat.le_of_ble_eq_true rfl) 111 (48 + u3) 61 (48 + u12) 59 115 (48 + u12) 62 (by omega) (by omega) (by omega) (by omega) (by omega) (by omega) (by omega) (by omega)) gL_text_L_type rfl (by decide +kernel) ⟨Nat.le_of_ble_eq_true rfl, Nat.le_of_ble_eq_true rfl⟩ rfl rfl (Nat.le_of_ble_eq_true rfl) dL_text_141 ⟨Nat.le_of_ble_eq_true rfl, Nat.le_of_ble_eq_true rfl⟩ rfl (fun v w9 hv => ?_)
    obtain ⟨rfl, td141, hT141, rfl⟩ := hv
    refine ⟨AD.rf rfl, ?_⟩
    refine g_st (st' := [_]) rfl ?_
    refine g_if_eq X dL_text_144 289 (by decide) rfl (fun h144 => absurd h144 (by decide)) (fun h144 => ?_)
    refine g_aload_n X dL_text_147 rfl 10 rfl rfl ?_
    refine g_bipush (v := (48 : Int32)) X dL_text_148 (by decide) rfl ?_
    refine g_iload X dL_text_150 7 rfl rfl ?_
    refine g_iadd X dL_text_152 rfl ?_
    refine g_topi (y := nI (48 + u23)) (nI_add 48 u23) ?_
    refine g_bipush (v := (58 : Int32)) X dL_text_153 (by decide) rfl ?_
    refine g_bipush (v := (48 : Int32)) X dL_text_155 (by decide) rfl ?_
    refine g_iload_n X dL_text_157 rfl 9 rfl rfl ?_
    refine g_iadd X dL_text_158 rfl ?_
    refine g_topi (y := nI (48 + u3)) (nI_add 48 u3) ?_
    refine g_bipush (v := (42 : Int32)) X dL_text_159 (by decide) rfl ?_
    refine g_bipush (v := (48 : Int32)) X dL_text_161 (by decide) rfl ?_
    refine g_iload X dL_text_163 6 rfl rfl ?_
    refine g_iadd X dL_text_165 rfl ?_
    refine g_topi (y := nI (48 + (1 + u35))) (nI_add 48 (1 + u35)) ?_
    refine g_bipush (v := (59 : Int32)) X dL_text_166 (by decide) rfl ?_
    refine g_bipush (v := (112 : Int32)) X dL_text_168 (by decide) rfl ?_
    refine g_bipush (v := (48 : Int32)) X dL_text_170 (by decide) rfl ?_
    refine g_iload X dL_text_172 5 rfl rfl ?_
    refine g_iadd X dL_text_174 rfl ?_
    refine g_topi (y := nI (48 + u44)) (nI_add 48 u44) ?_
    refine g_callSXs (n := 9) (As := [_, _, _, _, _, _, _, _, _]) (rest := []) X hAg rfl (c_L_type8 l D a f na w td141 vl (0 + 8) pt fl kd kp (fqa pq) (fqa ps) (tlW D pq ps) ([] ++ [111, (48 + u3), 61, (48 + u12), 59, 115, (48 + u12), 62]) hT141 rfl (Nat.le_of_ble_eq_true rfl) (48 + u23) 58 (48 + u3) 42 (48 + (1 + u35)) 59 112 (48 + u44) (by omega) (by omega) (by omega) (by omega) (by omega) (by omega) (by omega) (by omega)) gL_text_L_type rfl (by decide +kernel) ⟨Nat.le_of_ble_eq_true rfl, Nat.le_of_ble_eq_true rfl⟩ rfl rfl (Nat.le_of_ble_eq_true rfl) dL_text_175 ⟨Nat.le_of_ble_eq_true rfl, Nat.le_of_ble_eq_true rfl⟩ rfl (fun v w9 hv => ?_)
    obtain ⟨rfl, td175, hT175, rfl⟩ := hv
    refine ⟨AD.rf rfl, ?_⟩
    refine g_st (st' := [_]) rfl ?_
    refine g_if_eq X dL_text_178 289 (by decide) rfl (fun h178 => absurd h178 (by decide)) (fun h178 => ?_)
    refine g_aload_n X dL_text_181 rfl 10 rfl rfl ?_
    refine g_bipush (v := (62 : Int32)) X dL_text_182 (by decide) rfl ?_
    refine g_bipush (v := (48 : Int32)) X dL_text_184 (by decide) rfl ?_
    refine g_iload X dL_text_186 4 rfl rfl ?_
    refine g_iadd X dL_text_188 rfl ?_
    refine g_topi (y := nI (48 + u54)) (nI_add 48 u54) ?_
    refine g_bipush (v := (42 : Int32)) X dL_text_189 (by decide) rfl ?_
    refine g_bipush (v := (48 : Int32)) X dL_text_191 (by decide) rfl ?_
    refine g_iload X dL_text_193 3 rfl rfl ?_
    refine g_iadd X dL_text_195 rfl ?_
    refine g_topi (y := nI (48 + (1 + u66))) (nI_add 48 (1 + u66)) ?_
    refine g_bipush (v := (59 : Int32)) X dL_text_196 (by decide) rfl ?_
    refine g_bipush (v := (100 : Int32)) X dL_text_198 (by decide) rfl ?_
    refine g_bipush (v := (48 : Int32)) X dL_text_200 (by decide) rfl ?_
    refine g_iload X dL_text_202 4 rfl rfl ?_
    refine g_iadd X dL_text_204 rfl ?_
    refine g_topi (y := nI (48 + u54)) (nI_add 48 u54) ?_
    refine g_bipush (v := (46 : Int32)) X dL_text_205 (by decide) rfl ?_
    refine g_callSXs (n := 9) (As := [_, _, _, _, _, _, _, _, _]) (rest := []) X hAg rfl (c_L_type8 l D a f na w td175 vl (0 + 8 + 8) pt fl kd kp (fqa pq) (fqa ps) (tlW D pq ps) (([] ++ [111, (48 + u3), 61, (48 + u12), 59, 115, (48 + u12), 62]) ++ [(48 + u23), 58, (48 + u3), 42, (48 + (1 + u35)), 59, 112, (48 + u44)]) hT175 rfl (Nat.le_of_ble_eq_true rfl) 62 (48 + u54) 42 (48 + (1 + u66)) 59 100 (48 + u54) 46 (by omega) (by omega) (by omega) (by omega) (by omega) (by omega) (by omega) (by omega)) gL_text_L_type rfl (by decide +kernel) ⟨Nat.le_of_ble_eq_true rfl, Nat.le_of_ble_eq_true rfl⟩ rfl rfl (Nat.le_of_ble_eq_true rfl) dL_text_207 ⟨Nat.le_of_ble_eq_true rfl, Nat.le_of_ble_eq_true rfl⟩ rfl (fun v w9 hv => ?_)
    obtain ⟨rfl, td207, hT207, rfl⟩ := hv
    refine ⟨AD.rf rfl, ?_⟩
    refine g_st (st' := [_]) rfl ?_
    refine g_if_eq X dL_text_210 289 (by decide) rfl (fun h210 => absurd h210 (by decide)) (fun h210 => ?_)
    refine g_aload_n X dL_text_213 rfl 10 rfl rfl ?_
    refine g_bipush (v := (48 : Int32)) X dL_text_214 (by decide) rfl ?_
    refine g_iload X dL_text_216 2 rfl rfl ?_
    refine g_iadd X dL_text_218 rfl ?_
    refine g_topi (y := nI (48 + u77)) (nI_add 48 u77) ?_
    refine g_bipush (v := (61 : Int32)) X dL_text_219 (by decide) rfl ?_
    refine g_bipush (v := (48 : Int32)) X dL_text_221 (by decide) rfl ?_
    refine g_iload X dL_text_223 1 rfl rfl ?_
    refine g_iadd X dL_text_225 rfl ?_
    refine g_topi (y := nI (48 + u88)) (nI_add 48 u88) ?_
    refine g_bipush (v := (59 : Int32)) X dL_text_226 (by decide) rfl ?_
    refine g_bipush (v := (63 : Int32)) X dL_text_228 (by decide) rfl ?_
    refine g_bipush (v := (48 : Int32)) X dL_text_230 (by decide) rfl ?_
    refine g_iload X dL_text_232 4 rfl rfl ?_
    refine g_iadd X dL_text_234 rfl ?_
    refine g_topi (y := nI (48 + u54)) (nI_add 48 u54) ?_
    refine g_bipush (v := (46 : Int32)) X dL_text_235 (by decide) rfl ?_
    refine g_bipush (v := (48 : Int32)) X dL_text_237 (by decide) rfl ?_
    refine g_iload X dL_text_239 2 rfl rfl ?_
    refine g_iadd X dL_text_241 rfl ?_
    refine g_topi (y := nI (48 + u77)) (nI_add 48 u77) ?_
    refine g_callSXs (n := 9) (As := [_, _, _, _, _, _, _, _, _]) (rest := []) X hAg rfl (c_L_type8 l D a f na w td207 vl (0 + 8 + 8 + 8) pt fl kd kp (fqa pq) (fqa ps) (tlW D pq ps) ((([] ++ [111, (48 + u3), 61, (48 + u12), 59, 115, (48 + u12), 62]) ++ [(48 + u23), 58, (48 + u3), 42, (48 + (1 + u35)), 59, 112, (48 + u44)]) ++ [62, (48 + u54), 42, (48 + (1 + u66)), 59, 100, (48 + u54), 46]) hT207 rfl (Nat.le_of_ble_eq_true rfl) (48 + u77) 61 (48 + u88) 59 63 (48 + u54) 46 (48 + u77) (by omega) (by omega) (by omega) (by omega) (by omega) (by omega) (by omega) (by omega)) gL_text_L_type rfl (by decide +kernel) ⟨Nat.le_of_ble_eq_true rfl, Nat.le_of_ble_eq_true rfl⟩ rfl rfl (Nat.le_of_ble_eq_true rfl) dL_text_242 ⟨Nat.le_of_ble_eq_true rfl, Nat.le_of_ble_eq_true rfl⟩ rfl (fun v w9 hv => ?_)
    obtain ⟨rfl, td242, hT242, rfl⟩ := hv
    refine ⟨AD.rf rfl, ?_⟩
    refine g_st (st' := [_]) rfl ?_
    refine g_if_eq X dL_text_245 289 (by decide) rfl (fun h245 => absurd h245 (by decide)) (fun h245 => ?_)
    refine g_aload_n X dL_text_248 rfl 10 rfl rfl ?_
    refine g_iload X dL_text_249 0 rfl rfl ?_
    refine g_if_eq X dL_text_251 259 (by decide) rfl (fun h251 => absurd h251 (by decide)) (fun h251 => ?_)
    refine g_bipush (v := (119 : Int32)) X dL_text_254 (by decide) rfl ?_
    refine g_goto X dL_text_256 261 (by decide) ?_
    refine g_bipush (v := (59 : Int32)) X dL_text_261 (by decide) rfl ?_
    refine g_bipush (v := (116 : Int32)) X dL_text_263 (by decide) rfl ?_
    refine g_bipush (v := (48 : Int32)) X dL_text_265 (by decide) rfl ?_
    refine g_iload X dL_text_267 5 rfl rfl ?_
    refine g_iadd X dL_text_269 rfl ?_
    refine g_topi (y := nI (48 + u44)) (nI_add 48 u44) ?_
    refine g_iconst (v := (0 : Int32)) X dL_text_270 (by decide) rfl ?_
    refine g_iconst (v := (0 : Int32)) X dL_text_271 (by decide) rfl ?_
    refine g_iconst (v := (0 : Int32)) X dL_text_272 (by decide) rfl ?_
    refine g_iconst (v := (0 : Int32)) X dL_text_273 (by decide) rfl ?_
    refine g_callSXs (n := 9) (As := [_, _, _, _, _, _, _, _, _]) (rest := []) X hAg rfl (c_L_type4 l D a f na w td242 vl (0 + 8 + 8 + 8 + 8) pt fl kd kp (fqa pq) (fqa ps) (tlW D pq ps) (((([] ++ [111, (48 + u3), 61, (48 + u12), 59, 115, (48 + u12), 62]) ++ [(48 + u23), 58, (48 + u3), 42, (48 + (1 + u35)), 59, 112, (48 + u44)]) ++ [62, (48 + u54), 42, (48 + (1 + u66)), 59, 100, (48 + u54), 46]) ++ [(48 + u77), 61, (48 + u88), 59, 63, (48 + u54), 46, (48 + u77)]) hT242 rfl (Nat.le_of_ble_eq_true rfl) 119 59 116 (48 + u44) (by omega) (by omega) (by omega) (by omega)) gL_text_L_type rfl (by decide +kernel) ⟨Nat.le_of_ble_eq_true rfl, Nat.le_of_ble_eq_true rfl⟩ rfl rfl (Nat.le_of_ble_eq_true rfl) dL_text_274 ⟨Nat.le_of_ble_eq_true rfl, Nat.le_of_ble_eq_true rfl⟩ rfl (fun v w9 hv => ?_)
    obtain ⟨rfl, td274, hT274, rfl⟩ := hv
    refine ⟨AD.rf rfl, ?_⟩
    refine g_st (st' := [_]) rfl ?_
    refine g_if_eq X dL_text_277 289 (by decide) rfl (fun h277 => absurd h277 (by decide)) (fun h277 => ?_)
    refine g_aload_n X dL_text_280 rfl 10 rfl rfl ?_
    have hT : HT td274 (txC u3 u12 u23 (1 + u35) u44 u54 (1 + u66) u77 u88 119) := hT274
    have hall : ∀ z ∈ txC u3 u12 u23 (1 + u35) u44 u54 (1 + u66) u77 u88 119, z < 256 := by
      intro z hz
      unfold txC at hz
      simp only [List.cons_append, List.nil_append, List.mem_cons, List.not_mem_nil, or_false] at hz
      omega
    have htx := tx_eq hT hu3 hu12 hu23 (by omega) hu44 hu54 (by omega) hu77 hu88 (e := 2) (by omega)
    refine g_callVXs (n := 0) (As := []) (rest := []) X hAg rfl (c_X6_fault l D a f na w td274 vl (0 + 8 + 8 + 8 + 8 + 4) pt fl kd kp (fqa pq) (fqa ps) (tlW D pq ps) (Nat.le_of_ble_eq_true rfl) (fun k hk => HT_ch hT hall k hk)) gL_text_X6_fault rfl (by decide +kernel) ⟨Nat.le_of_ble_eq_true rfl, Nat.le_of_ble_eq_true rfl⟩ 20 rfl rfl rfl rfl (Nat.le_of_ble_eq_true rfl) dL_text_281 ⟨Nat.le_of_ble_eq_true rfl, Nat.le_of_ble_eq_true rfl⟩ rfl (fun v w9 hv => ?_)
    obtain ⟨rfl, p9, f9, v9, k9, hp9, rfl⟩ := hv
    refine ⟨AD.rf rfl, ?_⟩
    refine g_st (st' := [_]) rfl ?_
    refine g_topi (htx.1 _ _) ?_
    refine g_bipush (v := ((-6) : Int32)) X dL_text_284 (by decide) rfl ?_
    refine g_icmp_eq X dL_text_286 291 (by decide) rfl (fun h286 => ?_) (fun h286 => absurd h286 (by decide))
    exact c_text_b l D a f na w td vl L pt fl kd kp pq ps mk n b hW hNR hF hkp l9 hHL cr hcr hS x y td274 v9 p9 f9 k9 u3 u12 u23 u35 u44 u54 u66 u77 u88 1 2 119 hu3 hu12 hu23 hu35 hu44 hu54 hu66 hu77 hu88 rfl (by omega) hT hAe hAg X hr
