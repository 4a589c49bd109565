set_option maxHeartbeats 4000000 in
set_option maxRecDepth 100000 in
theorem c_X7_put (l : Launch) (D : DT) (a : Nat → Nat) (fa fp fs fv fg fw fd ft fn : Nat → Int32) (p1 pm wk sp iw od : Int32) (L n : Nat) (hL : L ≤ 80) (hn : n < 2 ^ 64) : MW l yX7_put wsX7_put 1 22 0 0 D [.ref (a 0), .long (lN n)] (wM D a fa fp fs fv fg fw fd ft fn p1 pm wk (nI L) sp iw od) (fun v w2 => v = some (.int (putS n L)) ∧ w2 = (wM D a fa fp fs fv fg fw (putF fd n L) ft fn p1 pm wk (nI (putL n L)) sp iw od)) := by
  refine MW.of (cc := cX7_put) (maxL := 7) (ret := (some .int)) (lv := [(0, .ref (a 0)), (1, .long (lN n))]) (by decide +kernel) rfl (Nat.le_of_ble_eq_true rfl) rfl ?_
  intro p e s m below meth c A hAe hAg X hr hmn
  have hinX70 : ∀ w ∈ wsX70, w ∈ wsX7_put := fun w h => List.mem_cons_of_mem _ (List.mem_append_right _ h)
  have hl184 := List.mem_of_getElem? (l := wsX7_put) (i := 2) rfl
  have hl29 := List.mem_of_getElem? (l := wsX7_put) (i := 3) rfl
  refine g_iconst (v := (0 : Int32)) X dX7_put_0 (by decide) rfl ?_
  refine g_istore_n X [(3, _), (0, _), (1, _)] dX7_put_1 rfl (by decide) rfl rfl ?_
  refine g_lload_n X dX7_put_2 rfl 2 rfl rfl ?_
  refine g_lstore X [(4, _), (3, _), (0, _), (1, _)] dX7_put_3 (by decide) rfl rfl ?_
  have L5 : ∀ (k m1 r : Nat) (hk : m1 + k = 8) (hr6 : r < 2 ^ 64) (hR : cM k r m1 = putN n), GG p l e (wRoom 1 22 0 0) s m ([.ref (a 0), .long (lN n)] : List Value).toArray below meth c D A 7 false 0 0 (MQ below (wrQ D (wM D a fa fp fs fv fg fw fd ft fn p1 pm wk (nI L) sp iw od) s.heap.size (fun v w2 => v = some (.int (putS n L)) ∧ w2 = (wM D a fa fp fs fv fg fw (putF fd n L) ft fn p1 pm wk (nI (putL n L)) sp iw od))) ([.ref (a 0), .long (lN n)] : List Value).toArray s 0 0 (va_A (wM D a fa fp fs fv fg fw fd ft fn p1 pm wk (nI L) sp iw od) s.heap.size)) (wM D a fa fp fs fv fg fw fd ft fn p1 pm wk (nI L) sp iw od) 5 [(4, .long (lN r)), (3, .int (nI m1)), (0, .ref (a 0)), (1, .long (lN n))] [] := by
    intro k
    induction k using Nat.strongRecOn with
    | _ k ih =>
    intro m1 r hk hr6 hR
    refine g_iload_n X dX7_put_5 rfl 1 rfl rfl ?_
    refine g_bipush (v := (8 : Int32)) X dX7_put_6 (by decide) rfl ?_
    refine g_icmp_ge X dX7_put_8 55 (by decide) rfl (fun h8 => ?_) (fun h8 => ?_)
    · have i8 := nj_le (a := 8) (b := m1) (by omega) (by omega) h8
      refine g_iload_n X dX7_put_55 rfl 1 rfl rfl ?_
      refine g_if_eq X dX7_put_56 66 (by decide) rfl (fun h56 => ?_) (fun h56 => ?_)
      · have i56 := nj_eq (a := m1) (b := 0) (by omega) (by omega) h56
        refine g_bipush (v := ((-2) : Int32)) X dX7_put_66 (by decide) rfl ?_
        refine g_retW X hr (by first | rfl | exact b2i_nar _) dX7_put_68 hAe ?_
        have hb : m1 = 0 ∨ ¬ r = 0 := by first | exact Or.inl i56 | exact Or.inr (fun z => h63 ((lg_0 hr6).mpr z))
        have hP : putN n = 0 := by
          rw [← hR]
          cases k with
          | zero => rw [cM, if_pos hb]
          | succ k => first | omega | rw [cM, if_neg (fun z => z ((lg_0 (by omega)).mp h19)), if_pos hb]
        unfold putS putF putL
        rw [if_pos hP, if_pos (Or.inl hP), if_pos (Or.inl hP)]
        exact ⟨rfl, rfl⟩
      · have i56 := nj_ne (a := m1) (b := 0) (by omega) (by omega) h56
        refine g_lload X dX7_put_59 0 rfl rfl ?_
        refine g_lconst (v := (0 : Int64)) X dX7_put_61 (by decide) rfl ?_
        refine g_lcmp X dX7_put_62 rfl ?_
        refine g_if_eq X dX7_put_63 69 (by decide) rfl (fun h63 => ?_) (fun h63 => ?_)
        · have hr0 : r = 0 := (lg_0 hr6).mp h63
          have hm0 : ¬ m1 = 0 := i56
          have hP : putN n = m1 := by
            rw [← hR]
            cases k with
            | zero => rw [cM, if_neg (by omega)]
            | succ k => rw [cM, if_neg (by rw [hr0]; decide), if_neg (by omega)]
          refine g_aload_n X dX7_put_69 rfl 2 rfl rfl ?_
          refine gM_get_padMany X dX7_put_70 hinX70 hl184 rfl ?_
          refine g_iload_n X dX7_put_73 rfl 1 rfl rfl ?_
          refine g_iadd X dX7_put_74 rfl ?_
          refine g_topi (y := nI (L + m1)) (nI_add (L) (m1)) ?_
          refine g_bipush (v := (80 : Int32)) X dX7_put_75 (by decide) rfl ?_
          refine g_icmp_le X dX7_put_77 83 (by decide) rfl (fun h77 => ?_) (fun h77 => ?_)
          · have i77 := nj_le (a := (L + m1)) (b := 80) (by omega) (by omega) h77
            refine g_iconst (v := (0 : Int32)) X dX7_put_83 (by decide) rfl ?_
            refine g_istore X [(6, _), (4, _), (3, _), (0, _), (1, _)] dX7_put_84 (by decide) rfl rfl ?_
            have L86 : ∀ (q i : Nat) (hi : i ≤ m1) (hq : m1 - i = q), GG p l e (wRoom 1 22 0 0) s m ([.ref (a 0), .long (lN n)] : List Value).toArray below meth c D A 7 false 0 0 (MQ below (wrQ D (wM D a fa fp fs fv fg fw fd ft fn p1 pm wk (nI L) sp iw od) s.heap.size (fun v w2 => v = some (.int (putS n L)) ∧ w2 = (wM D a fa fp fs fv fg fw (putF fd n L) ft fn p1 pm wk (nI (putL n L)) sp iw od))) ([.ref (a 0), .long (lN n)] : List Value).toArray s 0 0 (va_A (wM D a fa fp fs fv fg fw fd ft fn p1 pm wk (nI L) sp iw od) s.heap.size)) (wM D a fa fp fs fv fg fw (ptI fd L n m1 i) ft fn p1 pm wk (nI L) sp iw od) 86 [(6, .int (nI i)), (3, .int (nI m1)), (0, .ref (a 0)), (1, .long (lN n))] [] := by
              intro q
              induction q using Nat.strongRecOn with
              | _ q ih2 =>
              intro i hi hq
              refine g_iload X dX7_put_86 0 rfl rfl ?_
              refine g_iload_n X dX7_put_88 rfl 1 rfl rfl ?_
              refine g_icmp_ge X dX7_put_89 126 (by decide) rfl (fun h89 => ?_) (fun h89 => ?_)
              · have i89 := nj_le (a := m1) (b := i) (by omega) (by omega) h89
                have hii : m1 = i := by omega
                subst hii
                refine g_aload_n X dX7_put_126 rfl 2 rfl rfl ?_
                refine g_dup X dX7_put_127 rfl rfl ?_
                refine gM_get_padMany X dX7_put_128 hinX70 hl184 rfl ?_
                refine g_iload_n X dX7_put_131 rfl 1 rfl rfl ?_
                refine g_iadd X dX7_put_132 rfl ?_
                refine g_topi (y := nI (L + m1)) (nI_add (L) (m1)) ?_
                refine gM_put_padMany X rfl dX7_put_133 hinX70 hl184 rfl ?_
                refine g_aload_n X dX7_put_136 rfl 2 rfl rfl ?_
                refine gM_get_padMany X dX7_put_137 hinX70 hl184 rfl ?_
                refine g_retW X hr (by first | rfl | exact b2i_nar _) dX7_put_140 hAe ?_
                unfold putS putF putL
                rw [hP, if_neg hm0, if_neg (by omega), if_neg (by omega), if_neg (by omega)]
                exact ⟨rfl, rfl⟩
              · have i89 := nj_nle (a := m1) (b := i) (by omega) (by omega) h89
                refine g_aload_n X dX7_put_92 rfl 2 rfl rfl ?_
                refine gM_get_pad X dX7_put_93 hinX70 hl29 rfl ?_
                refine g_aload_n X dX7_put_96 rfl 2 rfl rfl ?_
                refine gM_get_padMany X dX7_put_97 hinX70 hl184 rfl ?_
                refine g_iload X dX7_put_100 0 rfl rfl ?_
                refine g_iadd X dX7_put_102 rfl ?_
                refine g_topi (y := nI (L + i)) (nI_add (L) (i)) ?_
                refine g_lload_n X dX7_put_103 rfl 3 rfl rfl ?_
                refine g_bipush (v := (8 : Int32)) X dX7_put_104 (by decide) rfl ?_
                refine g_iload_n X dX7_put_106 rfl 1 rfl rfl ?_
                refine g_iconst (v := (1 : Int32)) X dX7_put_107 (by decide) rfl ?_
                refine g_isub X dX7_put_108 rfl ?_
                refine g_topi (y := nI (m1 - 1)) (pk_sub (a := m1) (b := 1) (by omega)) ?_
                refine g_iload X dX7_put_109 0 rfl rfl ?_
                refine g_isub X dX7_put_111 rfl ?_
                refine g_topi (y := nI (m1 - 1 - i)) (pk_sub (a := m1 - 1) (b := i) (by omega)) ?_
                refine g_imul X dX7_put_112 rfl ?_
                refine g_topi (y := nI (8 * (m1 - 1 - i))) (pk_mul (8) ((m1 - 1 - i))) ?_
                refine g_lshr X dX7_put_113 rfl rfl ?_
                refine g_ldc2 X dX7_put_114 (List.mem_of_getElem? (i := 1) rfl) rfl ?_
                refine g_land X dX7_put_117 rfl ?_
                refine g_topl (lN_ssh hn (by omega)) ?_
                refine g_l2i X dX7_put_118 rfl rfl ?_
                refine g_topi (y := chrB n (m1 - 1 - i)) ((lN_i _).trans (congrArg nI (by show n / 2 ^ (8 * (m1 - 1 - i)) % 256 = n / (2 ^ 8) ^ (m1 - 1 - i) % 256; rw [Nat.pow_mul]))) ?_
                refine gM_st_pad X rfl dX7_put_119 (by first | rfl | assumption) (by omega) rfl ?_
                refine g_iinc (v := nI (i + 1)) X [(6, _), (3, _), (0, _), (1, _)] dX7_put_120 0 rfl (nI_add (i) 1) (by decide) rfl rfl ?_
                refine g_goto X dX7_put_123 86 (by decide) ?_
                refine g_ws (wM_fd ptI_s) ?_
                exact ih2 (m1 - (i + 1)) (by omega) (i + 1) (by omega) rfl
            refine g_lv [0, 2, 3, 4] [(6, _), (3, _), (0, _), (1, _)] rfl ?_
            refine g_ws (wM_fd (ptI_0 fd L n m1).symm) ?_
            exact L86 m1 0 (by omega) rfl
          · have i77 := nj_nle (a := (L + m1)) (b := 80) (by omega) (by omega) h77
            refine g_bipush (v := ((-4) : Int32)) X dX7_put_80 (by decide) rfl ?_
            refine g_retW X hr (by first | rfl | exact b2i_nar _) dX7_put_82 hAe ?_
            unfold putS putF putL
            rw [hP, if_neg hm0, if_pos (by omega), if_pos (Or.inr (by omega)), if_pos (Or.inr (by omega))]
            exact ⟨rfl, rfl⟩
        · refine g_bipush (v := ((-2) : Int32)) X dX7_put_66 (by decide) rfl ?_
          refine g_retW X hr (by first | rfl | exact b2i_nar _) dX7_put_68 hAe ?_
          have hb : m1 = 0 ∨ ¬ r = 0 := by first | exact Or.inl i56 | exact Or.inr (fun z => h63 ((lg_0 hr6).mpr z))
          have hP : putN n = 0 := by
            rw [← hR]
            cases k with
            | zero => rw [cM, if_pos hb]
            | succ k => first | omega | rw [cM, if_neg (fun z => z ((lg_0 (by omega)).mp h19)), if_pos hb]
          unfold putS putF putL
          rw [if_pos hP, if_pos (Or.inl hP), if_pos (Or.inl hP)]
          exact ⟨rfl, rfl⟩
    · have i8 := nj_nle (a := 8) (b := m1) (by omega) (by omega) h8
      refine g_lload X dX7_put_11 0 rfl rfl ?_
      refine g_ldc2 X dX7_put_13 (List.mem_of_getElem? (i := 1) rfl) rfl ?_
      refine g_land X dX7_put_16 rfl ?_
      refine g_topl (lN_255 hr6) ?_
      refine g_lconst (v := (0 : Int64)) X dX7_put_17 (by decide) rfl ?_
      refine g_lcmp X dX7_put_18 rfl ?_
      refine g_if_eq X dX7_put_19 55 (by decide) rfl (fun h19 => ?_) (fun h19 => ?_)
      · refine g_iload_n X dX7_put_55 rfl 1 rfl rfl ?_
        refine g_if_eq X dX7_put_56 66 (by decide) rfl (fun h56 => ?_) (fun h56 => ?_)
        · have i56 := nj_eq (a := m1) (b := 0) (by omega) (by omega) h56
          refine g_bipush (v := ((-2) : Int32)) X dX7_put_66 (by decide) rfl ?_
          refine g_retW X hr (by first | rfl | exact b2i_nar _) dX7_put_68 hAe ?_
          have hb : m1 = 0 ∨ ¬ r = 0 := by first | exact Or.inl i56 | exact Or.inr (fun z => h63 ((lg_0 hr6).mpr z))
          have hP : putN n = 0 := by
            rw [← hR]
            cases k with
            | zero => rw [cM, if_pos hb]
            | succ k => first | omega | rw [cM, if_neg (fun z => z ((lg_0 (by omega)).mp h19)), if_pos hb]
          unfold putS putF putL
          rw [if_pos hP, if_pos (Or.inl hP), if_pos (Or.inl hP)]
          exact ⟨rfl, rfl⟩
        · have i56 := nj_ne (a := m1) (b := 0) (by omega) (by omega) h56
          refine g_lload X dX7_put_59 0 rfl rfl ?_
          refine g_lconst (v := (0 : Int64)) X dX7_put_61 (by decide) rfl ?_
          refine g_lcmp X dX7_put_62 rfl ?_
          refine g_if_eq X dX7_put_63 69 (by decide) rfl (fun h63 => ?_) (fun h63 => ?_)
          · have hr0 : r = 0 := (lg_0 hr6).mp h63
            have hm0 : ¬ m1 = 0 := i56
            have hP : putN n = m1 := by
              rw [← hR]
              cases k with
              | zero => rw [cM, if_neg (by omega)]
              | succ k => rw [cM, if_neg (by rw [hr0]; decide), if_neg (by omega)]
            refine g_aload_n X dX7_put_69 rfl 2 rfl rfl ?_
            refine gM_get_padMany X dX7_put_70 hinX70 hl184 rfl ?_
            refine g_iload_n X dX7_put_73 rfl 1 rfl rfl ?_
            refine g_iadd X dX7_put_74 rfl ?_
            refine g_topi (y := nI (L + m1)) (nI_add (L) (m1)) ?_
            refine g_bipush (v := (80 : Int32)) X dX7_put_75 (by decide) rfl ?_
            refine g_icmp_le X dX7_put_77 83 (by decide) rfl (fun h77 => ?_) (fun h77 => ?_)
            · have i77 := nj_le (a := (L + m1)) (b := 80) (by omega) (by omega) h77
              refine g_iconst (v := (0 : Int32)) X dX7_put_83 (by decide) rfl ?_
              refine g_istore X [(6, _), (4, _), (3, _), (0, _), (1, _)] dX7_put_84 (by decide) rfl rfl ?_
              have L86 : ∀ (q i : Nat) (hi : i ≤ m1) (hq : m1 - i = q), GG p l e (wRoom 1 22 0 0) s m ([.ref (a 0), .long (lN n)] : List Value).toArray below meth c D A 7 false 0 0 (MQ below (wrQ D (wM D a fa fp fs fv fg fw fd ft fn p1 pm wk (nI L) sp iw od) s.heap.size (fun v w2 => v = some (.int (putS n L)) ∧ w2 = (wM D a fa fp fs fv fg fw (putF fd n L) ft fn p1 pm wk (nI (putL n L)) sp iw od))) ([.ref (a 0), .long (lN n)] : List Value).toArray s 0 0 (va_A (wM D a fa fp fs fv fg fw fd ft fn p1 pm wk (nI L) sp iw od) s.heap.size)) (wM D a fa fp fs fv fg fw (ptI fd L n m1 i) ft fn p1 pm wk (nI L) sp iw od) 86 [(6, .int (nI i)), (3, .int (nI m1)), (0, .ref (a 0)), (1, .long (lN n))] [] := by
                intro q
                induction q using Nat.strongRecOn with
                | _ q ih2 =>
                intro i hi hq
                refine g_iload X dX7_put_86 0 rfl rfl ?_
                refine g_iload_n X dX7_put_88 rfl 1 rfl rfl ?_
                refine g_icmp_ge X dX7_put_89 126 (by decide) rfl (fun h89 => ?_) (fun h89 => ?_)
                · have i89 := nj_le (a := m1) (b := i) (by omega) (by omega) h89
                  have hii : m1 = i := by omega
                  subst hii
                  refine g_aload_n X dX7_put_126 rfl 2 rfl rfl ?_
                  refine g_dup X dX7_put_127 rfl rfl ?_
                  refine gM_get_padMany X dX7_put_128 hinX70 hl184 rfl ?_
                  refine g_iload_n X dX7_put_131 rfl 1 rfl rfl ?_
                  refine g_iadd X dX7_put_132 rfl ?_
                  refine g_topi (y := nI (L + m1)) (nI_add (L) (m1)) ?_
                  refine gM_put_padMany X rfl dX7_put_133 hinX70 hl184 rfl ?_
                  refine g_aload_n X dX7_put_136 rfl 2 rfl rfl ?_
                  refine gM_get_padMany X dX7_put_137 hinX70 hl184 rfl ?_
                  refine g_retW X hr (by first | rfl | exact b2i_nar _) dX7_put_140 hAe ?_
                  unfold putS putF putL
                  rw [hP, if_neg hm0, if_neg (by omega), if_neg (by omega), if_neg (by omega)]
                  exact ⟨rfl, rfl⟩
                · have i89 := nj_nle (a := m1) (b := i) (by omega) (by omega) h89
                  refine g_aload_n X dX7_put_92 rfl 2 rfl rfl ?_
                  refine gM_get_pad X dX7_put_93 hinX70 hl29 rfl ?_
                  refine g_aload_n X dX7_put_96 rfl 2 rfl rfl ?_
                  refine gM_get_padMany X dX7_put_97 hinX70 hl184 rfl ?_
                  refine g_iload X dX7_put_100 0 rfl rfl ?_
                  refine g_iadd X dX7_put_102 rfl ?_
                  refine g_topi (y := nI (L + i)) (nI_add (L) (i)) ?_
                  refine g_lload_n X dX7_put_103 rfl 3 rfl rfl ?_
                  refine g_bipush (v := (8 : Int32)) X dX7_put_104 (by decide) rfl ?_
                  refine g_iload_n X dX7_put_106 rfl 1 rfl rfl ?_
                  refine g_iconst (v := (1 : Int32)) X dX7_put_107 (by decide) rfl ?_
                  refine g_isub X dX7_put_108 rfl ?_
                  refine g_topi (y := nI (m1 - 1)) (pk_sub (a := m1) (b := 1) (by omega)) ?_
                  refine g_iload X dX7_put_109 0 rfl rfl ?_
                  refine g_isub X dX7_put_111 rfl ?_
                  refine g_topi (y := nI (m1 - 1 - i)) (pk_sub (a := m1 - 1) (b := i) (by omega)) ?_
                  refine g_imul X dX7_put_112 rfl ?_
                  refine g_topi (y := nI (8 * (m1 - 1 - i))) (pk_mul (8) ((m1 - 1 - i))) ?_
                  refine g_lshr X dX7_put_113 rfl rfl ?_
                  refine g_ldc2 X dX7_put_114 (List.mem_of_getElem? (i := 1) rfl) rfl ?_
                  refine g_land X dX7_put_117 rfl ?_
                  refine g_topl (lN_ssh hn (by omega)) ?_
                  refine g_l2i X dX7_put_118 rfl rfl ?_
                  refine g_topi (y := chrB n (m1 - 1 - i)) ((lN_i _).trans (congrArg nI (by show n / 2 ^ (8 * (m1 - 1 - i)) % 256 = n / (2 ^ 8) ^ (m1 - 1 - i) % 256; rw [Nat.pow_mul]))) ?_
                  refine gM_st_pad X rfl dX7_put_119 (by first | rfl | assumption) (by omega) rfl ?_
                  refine g_iinc (v := nI (i + 1)) X [(6, _), (3, _), (0, _), (1, _)] dX7_put_120 0 rfl (nI_add (i) 1) (by decide) rfl rfl ?_
                  refine g_goto X dX7_put_123 86 (by decide) ?_
                  refine g_ws (wM_fd ptI_s) ?_
                  exact ih2 (m1 - (i + 1)) (by omega) (i + 1) (by omega) rfl
              refine g_lv [0, 2, 3, 4] [(6, _), (3, _), (0, _), (1, _)] rfl ?_
              refine g_ws (wM_fd (ptI_0 fd L n m1).symm) ?_
              exact L86 m1 0 (by omega) rfl
            · have i77 := nj_nle (a := (L + m1)) (b := 80) (by omega) (by omega) h77
              refine g_bipush (v := ((-4) : Int32)) X dX7_put_80 (by decide) rfl ?_
              refine g_retW X hr (by first | rfl | exact b2i_nar _) dX7_put_82 hAe ?_
              unfold putS putF putL
              rw [hP, if_neg hm0, if_pos (by omega), if_pos (Or.inr (by omega)), if_pos (Or.inr (by omega))]
              exact ⟨rfl, rfl⟩
          · refine g_bipush (v := ((-2) : Int32)) X dX7_put_66 (by decide) rfl ?_
            refine g_retW X hr (by first | rfl | exact b2i_nar _) dX7_put_68 hAe ?_
            have hb : m1 = 0 ∨ ¬ r = 0 := by first | exact Or.inl i56 | exact Or.inr (fun z => h63 ((lg_0 hr6).mpr z))
            have hP : putN n = 0 := by
              rw [← hR]
              cases k with
              | zero => rw [cM, if_pos hb]
              | succ k => first | omega | rw [cM, if_neg (fun z => z ((lg_0 (by omega)).mp h19)), if_pos hb]
            unfold putS putF putL
            rw [if_pos hP, if_pos (Or.inl hP), if_pos (Or.inl hP)]
            exact ⟨rfl, rfl⟩
      · have hz : ¬ r % 256 = 0 := fun z => h19 ((lg_0 (by omega)).mpr z)
        refine g_lload X dX7_put_22 0 rfl rfl ?_
        refine g_ldc2 X dX7_put_24 (List.mem_of_getElem? (i := 1) rfl) rfl ?_
        refine g_land X dX7_put_27 rfl ?_
        refine g_topl (lN_255 hr6) ?_
        refine g_l2i X dX7_put_28 rfl rfl ?_
        refine g_topi (lN_i _) ?_
        refine g_bipush (v := (33 : Int32)) X dX7_put_29 (by decide) rfl ?_
        refine g_bipush (v := (126 : Int32)) X dX7_put_31 (by decide) rfl ?_
        refine g_callSR (n := 3) (As := [_, _, _]) (rest := []) X (c_X7_in l D _ _ _) gX7_put_X7_in rfl (by decide +kernel) ⟨Nat.le_of_ble_eq_true rfl, Nat.le_of_ble_eq_true rfl⟩ [] rfl rfl rfl rfl (Nat.le_of_ble_eq_true rfl) dX7_put_33 ⟨Nat.le_of_ble_eq_true rfl, Nat.le_of_ble_eq_true rfl⟩ rfl (fun v hv => ?_)
        obtain rfl := hv
        refine g_st (st' := [_]) rfl ?_
        refine g_topi (y := b2i (decide (33 ≤ r % 256 ∧ r % 256 ≤ 126))) (congrArg b2i (decide_eq_decide.mpr (by rw [nI_toInt (by omega)]; show (33 : Int) ≤ _ ∧ _ ≤ (126 : Int) ↔ _; omega))) ?_
        refine g_if_ne X dX7_put_36 42 (by decide) rfl (fun h36 => ?_) (fun h36 => ?_)
        · replace h36 := b2i_n0 h36
          refine g_iinc (v := nI (m1 + 1)) X [(3, _), (4, _), (0, _), (1, _)] dX7_put_42 1 rfl (nI_add (m1) 1) (by decide) rfl rfl ?_
          refine g_lload X dX7_put_45 1 rfl rfl ?_
          refine g_bipush (v := (8 : Int32)) X dX7_put_47 (by decide) rfl ?_
          refine g_lushr X dX7_put_49 rfl rfl ?_
          refine g_topl (wb_shr (k := 8) hr6 (by omega)) ?_
          refine g_lstore X [(4, _), (3, _), (0, _), (1, _)] dX7_put_50 (by decide) rfl rfl ?_
          refine g_goto X dX7_put_52 5 (by decide) ?_
          obtain ⟨k1, rfl⟩ : ∃ k1, k = k1 + 1 := ⟨k - 1, by omega⟩
          rw [cM, if_pos hz, if_pos (of_decide_eq_true h36)] at hR
          exact ih k1 (by omega) (m1 + 1) (r / 2 ^ 8) (by omega) (by omega) hR
        · replace h36 := b2i_0 h36
          refine g_bipush (v := ((-2) : Int32)) X dX7_put_39 (by decide) rfl ?_
          refine g_retW X hr (by first | rfl | exact b2i_nar _) dX7_put_41 hAe ?_
          have hP : putN n = 0 := by
            rw [← hR]
            obtain ⟨k1, rfl⟩ : ∃ k1, k = k1 + 1 := ⟨k - 1, by omega⟩
            rw [cM, if_pos hz, if_neg (of_decide_eq_false h36)]
          unfold putS putF putL
          rw [if_pos hP, if_pos (Or.inl hP), if_pos (Or.inl hP)]
          exact ⟨rfl, rfl⟩
  exact L5 8 0 n rfl hn rfl
