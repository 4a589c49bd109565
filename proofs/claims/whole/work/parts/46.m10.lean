set_option maxHeartbeats 4000000 in
set_option maxRecDepth 100000 in
theorem c_X7_fault (l : Launch) (D : DT) (a : Nat → Nat) (fa fp fs fv fg fw fd ft fn : Nat → Int32) (p1 pm wk sp iw od : Int32) (L : Nat) (hL : L ≤ 80) : MW l yX7_fault wsX7_fault 6 128 0 0 D [.ref (a 0)] (wM D a fa fp fs fv fg fw fd ft fn p1 pm wk (nI L) sp iw od) (fun v w2 => v = some (.int (faultS fd L fn ft)) ∧ w2 = (wM D a fa fp fs fv fg fw fd (fltR fd L fn ft).2.1 (fltR fd L fn ft).1.2.2 p1 pm wk (nI L) (nI (fltR fd L fn ft).1.1) (b2i (fltR fd L fn ft).1.2.1) (nI (fltR fd L fn ft).2.2)) ∧ ((fltR fd L fn ft).1.2.1 = false → (fltR fd L fn ft).2.2 ≤ 27) ∧ (fltR fd L fn ft).1.1 ≤ L) := by
  refine MW.of (cc := cX7_fault) (maxL := 1) (ret := (some .int)) (lv := [(0, .ref (a 0))]) (by decide +kernel) rfl (Nat.le_of_ble_eq_true rfl) rfl ?_
  intro p e s m below meth c A hAe hAg X hr hmn
  have hinX70 : ∀ w ∈ wsX70, w ∈ wsX7_fault := fun w h => List.mem_cons_of_mem _ (List.mem_append_right _ h)
  have hl194 := List.mem_of_getElem? (l := wsX7_fault) (i := 1) rfl
  have hl200 := List.mem_of_getElem? (l := wsX7_fault) (i := 2) rfl
  have hl197 := List.mem_of_getElem? (l := wsX7_fault) (i := 3) rfl
  have hl184 := List.mem_of_getElem? (l := wsX7_fault) (i := 4) rfl
  refine g_aload_n X dX7_fault_0 rfl 0 rfl rfl ?_
  refine g_iconst (v := (0 : Int32)) X dX7_fault_1 (by decide) rfl ?_
  refine gM_put_spot X rfl dX7_fault_2 hinX70 hl194 rfl ?_
  refine g_aload_n X dX7_fault_5 rfl 0 rfl rfl ?_
  refine g_iconst (v := (0 : Int32)) X dX7_fault_6 (by decide) rfl ?_
  refine gM_put_isWrong X rfl dX7_fault_7 hinX70 hl200 (by first | rfl | exact b2i_nar _) (by first | rfl | exact b2i_fit _) rfl ?_
  refine g_aload_n X dX7_fault_10 rfl 0 rfl rfl ?_
  refine g_iconst (v := (0 : Int32)) X dX7_fault_11 (by decide) rfl ?_
  refine gM_put_orders X rfl dX7_fault_12 hinX70 hl197 rfl ?_
  refine g_aload_n X dX7_fault_15 rfl 0 rfl rfl ?_
  refine g_callVWs (n := 0) (As := []) (rest := []) X hAg rfl (c_X7_takeOrder l D _ _ _ _ _ _ _ _ _ _ _ _ _  L 0 0 false hL (by omega) (by omega)) gX7_fault_X7_takeOrder rfl (by decide +kernel) ⟨Nat.le_of_ble_eq_true rfl, Nat.le_of_ble_eq_true rfl⟩ rfl rfl  rfl rfl (Nat.le_of_ble_eq_true rfl) dX7_fault_16 ⟨Nat.le_of_ble_eq_true rfl, Nat.le_of_ble_eq_true rfl⟩ rfl (fun v w hv => ?_)
  obtain ⟨rfl, rfl, hle⟩ := hv
  refine ⟨rfl, ?_⟩
  refine g_st (st' := []) rfl ?_
  have L19 : ∀ (n : Nat) (y : P5) (hyL : y.1.1 ≤ L) (hyo : y.1.2.1 = false → 3 * y.2.2 ≤ y.1.1 + 1) (hyn : y.1.2.1 = false → L ≤ y.1.1 + n) (hR : fltI fd L n y = fltR fd L fn ft), GG p l e (wRoom 6 128 0 0) s m ([.ref (a 0)] : List Value).toArray below meth c D A 1 false 0 0 (MQ below (wrQ D (wM D a fa fp fs fv fg fw fd ft fn p1 pm wk (nI L) sp iw od) s.heap.size (fun v w2 => v = some (.int (faultS fd L fn ft)) ∧ w2 = (wM D a fa fp fs fv fg fw fd (fltR fd L fn ft).2.1 (fltR fd L fn ft).1.2.2 p1 pm wk (nI L) (nI (fltR fd L fn ft).1.1) (b2i (fltR fd L fn ft).1.2.1) (nI (fltR fd L fn ft).2.2)) ∧ ((fltR fd L fn ft).1.2.1 = false → (fltR fd L fn ft).2.2 ≤ 27) ∧ (fltR fd L fn ft).1.1 ≤ L)) ([.ref (a 0)] : List Value).toArray s 0 0 (va_A (wM D a fa fp fs fv fg fw fd ft fn p1 pm wk (nI L) sp iw od) s.heap.size)) (wM D a fa fp fs fv fg fw fd y.2.1 y.1.2.2 p1 pm wk (nI L) (nI y.1.1) (b2i y.1.2.1) (nI y.2.2)) 19 [(0, .ref (a 0))] [] := by
    intro n
    induction n using Nat.strongRecOn with
    | _ n ih =>
    intro y hyL hyo hyn hR
    refine g_aload_n X dX7_fault_19 rfl 0 rfl rfl ?_
    refine gM_get_isWrong X dX7_fault_20 hinX70 hl200 rfl ?_
    refine g_if_ne X dX7_fault_23 57 (by decide) rfl (fun h23 => ?_) (fun h23 => ?_)
    · replace h23 := b2i_n0 h23
      have hxx : y.1.2.1 = true ∨ L ≤ y.1.1 := by first | exact Or.inl h23 | exact Or.inr i34
      rw [fltI_x hxx n] at hR
      refine g_aload_n X dX7_fault_57 rfl 0 rfl rfl ?_
      refine gM_get_isWrong X dX7_fault_58 hinX70 hl200 rfl ?_
      refine g_if_eq X dX7_fault_61 71 (by decide) rfl (fun h61 => ?_) (fun h61 => ?_)
      · replace h61 := b2i_0 h61
        refine g_bipush (v := ((-6) : Int32)) X dX7_fault_71 (by decide) rfl ?_
        refine g_retW X hr (by first | rfl | exact b2i_nar _) dX7_fault_73 hAe ?_
        unfold faultS
        rw [← hR]
        refine ⟨?_, rfl, fun h => by have := hyo h; omega, hyL⟩
        first
        | rw [if_pos h61]
        | rw [if_neg (by rw [h61]; exact Bool.false_ne_true)]
      · replace h61 := b2i_n0 h61
        refine g_aload_n X dX7_fault_64 rfl 0 rfl rfl ?_
        refine gM_get_spot X dX7_fault_65 hinX70 hl194 rfl ?_
        refine g_goto X dX7_fault_68 73 (by decide) ?_
        refine g_retW X hr (by first | rfl | exact b2i_nar _) dX7_fault_73 hAe ?_
        unfold faultS
        rw [← hR]
        refine ⟨?_, rfl, fun h => by have := hyo h; omega, hyL⟩
        first
        | rw [if_pos h61]
        | rw [if_neg (by rw [h61]; exact Bool.false_ne_true)]
    · replace h23 := b2i_0 h23
      refine g_aload_n X dX7_fault_26 rfl 0 rfl rfl ?_
      refine gM_get_spot X dX7_fault_27 hinX70 hl194 rfl ?_
      refine g_aload_n X dX7_fault_30 rfl 0 rfl rfl ?_
      refine gM_get_padMany X dX7_fault_31 hinX70 hl184 rfl ?_
      refine g_icmp_ge X dX7_fault_34 57 (by decide) rfl (fun h34 => ?_) (fun h34 => ?_)
      · have i34 := nj_le (a := L) (b := y.1.1) (by omega) (by omega) h34
        have hxx : y.1.2.1 = true ∨ L ≤ y.1.1 := by first | exact Or.inl h23 | exact Or.inr i34
        rw [fltI_x hxx n] at hR
        refine g_aload_n X dX7_fault_57 rfl 0 rfl rfl ?_
        refine gM_get_isWrong X dX7_fault_58 hinX70 hl200 rfl ?_
        refine g_if_eq X dX7_fault_61 71 (by decide) rfl (fun h61 => ?_) (fun h61 => ?_)
        · replace h61 := b2i_0 h61
          refine g_bipush (v := ((-6) : Int32)) X dX7_fault_71 (by decide) rfl ?_
          refine g_retW X hr (by first | rfl | exact b2i_nar _) dX7_fault_73 hAe ?_
          unfold faultS
          rw [← hR]
          refine ⟨?_, rfl, fun h => by have := hyo h; omega, hyL⟩
          first
          | rw [if_pos h61]
          | rw [if_neg (by rw [h61]; exact Bool.false_ne_true)]
        · replace h61 := b2i_n0 h61
          refine g_aload_n X dX7_fault_64 rfl 0 rfl rfl ?_
          refine gM_get_spot X dX7_fault_65 hinX70 hl194 rfl ?_
          refine g_goto X dX7_fault_68 73 (by decide) ?_
          refine g_retW X hr (by first | rfl | exact b2i_nar _) dX7_fault_73 hAe ?_
          unfold faultS
          rw [← hR]
          refine ⟨?_, rfl, fun h => by have := hyo h; omega, hyL⟩
          first
          | rw [if_pos h61]
          | rw [if_neg (by rw [h61]; exact Bool.false_ne_true)]
      · have i34 := nj_nle (a := L) (b := y.1.1) (by omega) (by omega) h34
        have ho3 := hyo h23
        refine g_aload_n X dX7_fault_37 rfl 0 rfl rfl ?_
        refine g_bipush (v := (59 : Int32)) X dX7_fault_38 (by decide) rfl ?_
        refine g_callVWs (n := 1) (As := [_]) (rest := []) X hAg rfl (c_X7_takeSign l D _ _ _ _ _ _ _ _ _ _ _ _ _  L y.1.1 y.2.2 y.1.2.1 hL hyL (by omega) _ (by decide)) gX7_fault_X7_takeSign rfl (by decide +kernel) ⟨Nat.le_of_ble_eq_true rfl, Nat.le_of_ble_eq_true rfl⟩ rfl rfl  rfl rfl (Nat.le_of_ble_eq_true rfl) dX7_fault_40 ⟨Nat.le_of_ble_eq_true rfl, Nat.le_of_ble_eq_true rfl⟩ rfl (fun v w hv => ?_)
        obtain ⟨rfl, rfl, hle⟩ := hv
        refine ⟨rfl, ?_⟩
        refine g_st (st' := []) rfl ?_
        refine g_aload_n X dX7_fault_43 rfl 0 rfl rfl ?_
        refine gM_get_isWrong X dX7_fault_44 hinX70 hl200 rfl ?_
        refine g_if_ne X dX7_fault_47 19 (by decide) rfl (fun h47 => ?_) (fun h47 => ?_)
        · replace h47 := b2i_n0 h47
          obtain ⟨n1, rfl⟩ : ∃ n1, n = n1 + 1 := ⟨n - 1, by have := hyn h23; omega⟩
          rw [fltI, if_pos ⟨h23, i34⟩, if_pos h47] at hR
          exact ih n1 (by omega) (((tSign fd L 59 y.1.1 y.1.2.1).1, (tSign fd L 59 y.1.1 y.1.2.1).2, y.1.2.2), y.2) hle (fun h => absurd ((show (tSign fd L 59 y.1.1 y.1.2.1).2 = false from h).symm.trans h47) (by decide)) (fun h => absurd ((show (tSign fd L 59 y.1.1 y.1.2.1).2 = false from h).symm.trans h47) (by decide)) (by rw [← hR]; exact fltI_x (Or.inl h47) n1)
        · replace h47 := b2i_0 h47
          refine g_aload_n X dX7_fault_50 rfl 0 rfl rfl ?_
          refine g_callVWs (n := 0) (As := []) (rest := []) X hAg rfl (c_X7_takeOrder l D _ _ _ _ _ _ _ _ _ _ _ _ _  L _ y.2.2 _ hL hle (by omega)) gX7_fault_X7_takeOrder rfl (by decide +kernel) ⟨Nat.le_of_ble_eq_true rfl, Nat.le_of_ble_eq_true rfl⟩ rfl rfl  rfl rfl (Nat.le_of_ble_eq_true rfl) dX7_fault_51 ⟨Nat.le_of_ble_eq_true rfl, Nat.le_of_ble_eq_true rfl⟩ rfl (fun v w hv => ?_)
          obtain ⟨rfl, rfl, hle⟩ := hv
          refine ⟨rfl, ?_⟩
          refine g_st (st' := []) rfl ?_
          refine g_goto X dX7_fault_54 19 (by decide) ?_
          obtain ⟨n1, rfl⟩ : ∃ n1, n = n1 + 1 := ⟨n - 1, by have := hyn h23; omega⟩
          rw [fltI, if_pos ⟨h23, i34⟩, if_neg (by rw [h47]; exact Bool.false_ne_true)] at hR
          exact ih n1 (by omega) (ordS fd L (tSign fd L 59 y.1.1 y.1.2.1).1 y.1.2.2 y.2.1 y.2.2) hle (fun h => (ordS_ok (by rw [tSign_ok h47]; have := hyo h23; omega) h).1) (fun h => by have h1 := (ordS_ok (by rw [tSign_ok h47]; have := hyo h23; omega) h).2; have h2 := hyn h23; have h3 := tSign_ok h47; omega) hR
  exact L19 81 (ordS fd L 0 fn ft 0) hle (fun h => (ordS_ok (by omega) h).1) (fun h => by omega) rfl

set_option maxHeartbeats 4000000 in
set_option maxRecDepth 100000 in
theorem c_X7_carry (l : Launch) (D : DT) (a : Nat → Nat) (fa fp fs fv fg fw fd ft fn : Nat → Int32) (wk dm sp iw od : Int32) (i1 km : Nat) (hi1 : i1 < 6) (hm : km ≤ 6) (mk nn b : Nat) (hW : WF fa mk nn b) (k : Nat) (hk : k < 28) : MW l yX7_carry wsX7_carry 5 121 0 0 D [.ref (a 0), .int (nI k)] (wM D a fa fp fs fv fg fw fd ft fn (nI i1) (nI km) wk dm sp iw od) (tryPost D a fp fs fv fd ft fn i1 km dm sp iw od false fa (crS fa (ft k) (fn (4 * k)) (fn (4 * k + 1)) (fn (4 * k + 2)) (fn (4 * k + 3)))) := by
  refine MW.of (cc := cX7_carry) (maxL := 3) (ret := (some .int)) (lv := [(0, .ref (a 0)), (1, .int (nI k))]) (by decide +kernel) rfl (Nat.le_of_ble_eq_true rfl) rfl ?_
  intro p e s m below meth c A hAe hAg X hr hmn
  have hinX70 : ∀ w ∈ wsX70, w ∈ wsX7_carry := fun w h => List.mem_cons_of_mem _ (List.mem_append_right _ h)
  have hl32 := List.mem_of_getElem? (l := wsX7_carry) (i := 1) rfl
  have hl35 := List.mem_of_getElem? (l := wsX7_carry) (i := 2) rfl
  refine g_iconst (v := (4 : Int32)) X dX7_carry_0 (by decide) rfl ?_
  refine g_iload_n X dX7_carry_1 rfl 1 rfl rfl ?_
  refine g_imul X dX7_carry_2 rfl ?_
  refine g_topi (y := nI (4 * k)) (pk_mul (4) (k)) ?_
  refine g_istore_n X [(2, _), (0, _), (1, _)] dX7_carry_3 rfl (by decide) rfl rfl ?_
  refine g_aload_n X dX7_carry_4 rfl 1 rfl rfl ?_
  refine gM_get_sort X dX7_carry_5 hinX70 hl32 rfl ?_
  refine g_iload_n X dX7_carry_8 rfl 2 rfl rfl ?_
  refine gM_ld_sort X dX7_carry_9 (by first | rfl | assumption) (by omega) rfl ?_
  rcases Classical.em ((ft k) = (100 : Int32)) with ec10 | ne100
  · refine g_lookup X dX7_carry_10 (by decide) (off := 146) (by rw [ec10]; decide) 156 (by decide) ?_
    refine g_aload_n X dX7_carry_156 rfl 1 rfl rfl ?_
    refine g_aload_n X dX7_carry_157 rfl 1 rfl rfl ?_
    refine gM_get_numbers X dX7_carry_158 hinX70 hl35 rfl ?_
    refine g_iload_n X dX7_carry_161 rfl 0 rfl rfl ?_
    refine gM_ld_numbers X dX7_carry_162 (by first | rfl | assumption) (by omega) rfl ?_
    refine g_aload_n X dX7_carry_163 rfl 1 rfl rfl ?_
    refine gM_get_numbers X dX7_carry_164 hinX70 hl35 rfl ?_
    refine g_iload_n X dX7_carry_167 rfl 0 rfl rfl ?_
    refine g_iconst (v := (1 : Int32)) X dX7_carry_168 (by decide) rfl ?_
    refine g_iadd X dX7_carry_169 rfl ?_
    refine g_topi (y := nI ((4 * k) + 1)) (nI_add ((4 * k)) (1)) ?_
    refine gM_ld_numbers X dX7_carry_170 (by first | rfl | assumption) (by omega) rfl ?_
    refine g_aload_n X dX7_carry_171 rfl 1 rfl rfl ?_
    refine gM_get_numbers X dX7_carry_172 hinX70 hl35 rfl ?_
    refine g_iload_n X dX7_carry_175 rfl 0 rfl rfl ?_
    refine g_iconst (v := (2 : Int32)) X dX7_carry_176 (by decide) rfl ?_
    refine g_iadd X dX7_carry_177 rfl ?_
    refine g_topi (y := nI ((4 * k) + 2)) (nI_add ((4 * k)) (2)) ?_
    refine gM_ld_numbers X dX7_carry_178 (by first | rfl | assumption) (by omega) rfl ?_
    refine g_iconst (v := (0 : Int32)) X dX7_carry_179 (by decide) rfl ?_
    refine g_callVWs (n := 4) (As := [_, _, _, _]) (rest := []) X hAg rfl (c_X7_tryDoor l D _ _ _ _ _ _ _ _ _ _ _ _ _ _ _  i1 km hi1 hm mk nn b hW _ _ _  false) gX7_carry_X7_tryDoor rfl (by decide +kernel) ⟨Nat.le_of_ble_eq_true rfl, Nat.le_of_ble_eq_true rfl⟩ rfl rfl  rfl rfl (Nat.le_of_ble_eq_true rfl) dX7_carry_180 ⟨Nat.le_of_ble_eq_true rfl, Nat.le_of_ble_eq_true rfl⟩ rfl (fun v w hv => ?_)
    obtain ⟨fg1, fw1, wk1, rfl, rfl⟩ := hv
    refine ⟨rfl, ?_⟩
    refine g_st (st' := [_]) rfl ?_
    refine g_retW X hr (by first | rfl | exact b2i_nar _) dX7_carry_183 hAe ?_
    have hC : crS fa (ft k) (fn (4 * k)) (fn (4 * k + 1)) (fn (4 * k + 2)) (fn (4 * k + 3)) = doorS fa (fn (4 * k)) (fn (4 * k + 1)) (fn (4 * k + 2)) := by unfold crS; rw [if_pos ec10]
    rw [hC]
    exact ⟨fg1, fw1, wk1, rfl, rfl⟩
  · rcases Classical.em ((ft k) = (111 : Int32)) with ec10 | ne111
    · refine g_lookup X dX7_carry_10 (by decide) (off := 50) (by rw [ec10]; decide) 60 (by decide) ?_
      refine g_aload_n X dX7_carry_60 rfl 1 rfl rfl ?_
      refine g_aload_n X dX7_carry_61 rfl 1 rfl rfl ?_
      refine gM_get_numbers X dX7_carry_62 hinX70 hl35 rfl ?_
      refine g_iload_n X dX7_carry_65 rfl 0 rfl rfl ?_
      refine gM_ld_numbers X dX7_carry_66 (by first | rfl | assumption) (by omega) rfl ?_
      refine g_aload_n X dX7_carry_67 rfl 1 rfl rfl ?_
      refine gM_get_numbers X dX7_carry_68 hinX70 hl35 rfl ?_
      refine g_iload_n X dX7_carry_71 rfl 0 rfl rfl ?_
      refine g_iconst (v := (1 : Int32)) X dX7_carry_72 (by decide) rfl ?_
      refine g_iadd X dX7_carry_73 rfl ?_
      refine g_topi (y := nI ((4 * k) + 1)) (nI_add ((4 * k)) (1)) ?_
      refine gM_ld_numbers X dX7_carry_74 (by first | rfl | assumption) (by omega) rfl ?_
      refine g_iconst (v := (0 : Int32)) X dX7_carry_75 (by decide) rfl ?_
      refine g_callVWs (n := 3) (As := [_, _, _]) (rest := []) X hAg rfl (c_X7_tryOwn l D _ _ _ _ _ _ _ _ _ _ _ _ _ _ _  i1 km hi1 hm mk nn b hW _ _  false) gX7_carry_X7_tryOwn rfl (by decide +kernel) ⟨Nat.le_of_ble_eq_true rfl, Nat.le_of_ble_eq_true rfl⟩ rfl rfl  rfl rfl (Nat.le_of_ble_eq_true rfl) dX7_carry_76 ⟨Nat.le_of_ble_eq_true rfl, Nat.le_of_ble_eq_true rfl⟩ rfl (fun v w hv => ?_)
      obtain ⟨fg1, fw1, wk1, rfl, rfl⟩ := hv
      refine ⟨rfl, ?_⟩
      refine g_st (st' := [_]) rfl ?_
      refine g_retW X hr (by first | rfl | exact b2i_nar _) dX7_carry_79 hAe ?_
      have hC : crS fa (ft k) (fn (4 * k)) (fn (4 * k + 1)) (fn (4 * k + 2)) (fn (4 * k + 3)) = ownS fa (fn (4 * k)) (fn (4 * k + 1)) := by unfold crS; rw [if_neg ne100, if_pos ec10]
      rw [hC]
      exact ⟨fg1, fw1, wk1, rfl, rfl⟩
    · rcases Classical.em ((ft k) = (112 : Int32)) with ec10 | ne112
      · refine g_lookup X dX7_carry_10 (by decide) (off := 106) (by rw [ec10]; decide) 116 (by decide) ?_
        refine g_aload_n X dX7_carry_116 rfl 1 rfl rfl ?_
        refine g_aload_n X dX7_carry_117 rfl 1 rfl rfl ?_
        refine gM_get_numbers X dX7_carry_118 hinX70 hl35 rfl ?_
        refine g_iload_n X dX7_carry_121 rfl 0 rfl rfl ?_
        refine gM_ld_numbers X dX7_carry_122 (by first | rfl | assumption) (by omega) rfl ?_
        refine g_aload_n X dX7_carry_123 rfl 1 rfl rfl ?_
        refine gM_get_numbers X dX7_carry_124 hinX70 hl35 rfl ?_
        refine g_iload_n X dX7_carry_127 rfl 0 rfl rfl ?_
        refine g_iconst (v := (1 : Int32)) X dX7_carry_128 (by decide) rfl ?_
        refine g_iadd X dX7_carry_129 rfl ?_
        refine g_topi (y := nI ((4 * k) + 1)) (nI_add ((4 * k)) (1)) ?_
        refine gM_ld_numbers X dX7_carry_130 (by first | rfl | assumption) (by omega) rfl ?_
        refine g_aload_n X dX7_carry_131 rfl 1 rfl rfl ?_
        refine gM_get_numbers X dX7_carry_132 hinX70 hl35 rfl ?_
        refine g_iload_n X dX7_carry_135 rfl 0 rfl rfl ?_
        refine g_iconst (v := (2 : Int32)) X dX7_carry_136 (by decide) rfl ?_
        refine g_iadd X dX7_carry_137 rfl ?_
        refine g_topi (y := nI ((4 * k) + 2)) (nI_add ((4 * k)) (2)) ?_
        refine gM_ld_numbers X dX7_carry_138 (by first | rfl | assumption) (by omega) rfl ?_
        refine g_iconst (v := (0 : Int32)) X dX7_carry_139 (by decide) rfl ?_
        refine g_callVWs (n := 4) (As := [_, _, _, _]) (rest := []) X hAg rfl (c_X7_tryPass l D _ _ _ _ _ _ _ _ _ _ _ _ _ _ _  i1 km hi1 hm mk nn b hW _ _ _  false) gX7_carry_X7_tryPass rfl (by decide +kernel) ⟨Nat.le_of_ble_eq_true rfl, Nat.le_of_ble_eq_true rfl⟩ rfl rfl  rfl rfl (Nat.le_of_ble_eq_true rfl) dX7_carry_140 ⟨Nat.le_of_ble_eq_true rfl, Nat.le_of_ble_eq_true rfl⟩ rfl (fun v w hv => ?_)
        obtain ⟨fg1, fw1, wk1, rfl, rfl⟩ := hv
        refine ⟨rfl, ?_⟩
        refine g_st (st' := [_]) rfl ?_
        refine g_retW X hr (by first | rfl | exact b2i_nar _) dX7_carry_143 hAe ?_
        have hC : crS fa (ft k) (fn (4 * k)) (fn (4 * k + 1)) (fn (4 * k + 2)) (fn (4 * k + 3)) = passS fa (fn (4 * k)) (fn (4 * k + 1)) (fn (4 * k + 2)) := by unfold crS; rw [if_neg ne100, if_neg ne111, if_pos ec10]
        rw [hC]
        exact ⟨fg1, fw1, wk1, rfl, rfl⟩
      · rcases Classical.em ((ft k) = (115 : Int32)) with ec10 | ne115
        · refine g_lookup X dX7_carry_10 (by decide) (off := 70) (by rw [ec10]; decide) 80 (by decide) ?_
          refine g_aload_n X dX7_carry_80 rfl 1 rfl rfl ?_
          refine g_aload_n X dX7_carry_81 rfl 1 rfl rfl ?_
          refine gM_get_numbers X dX7_carry_82 hinX70 hl35 rfl ?_
          refine g_iload_n X dX7_carry_85 rfl 0 rfl rfl ?_
          refine gM_ld_numbers X dX7_carry_86 (by first | rfl | assumption) (by omega) rfl ?_
          refine g_aload_n X dX7_carry_87 rfl 1 rfl rfl ?_
          refine gM_get_numbers X dX7_carry_88 hinX70 hl35 rfl ?_
          refine g_iload_n X dX7_carry_91 rfl 0 rfl rfl ?_
          refine g_iconst (v := (1 : Int32)) X dX7_carry_92 (by decide) rfl ?_
          refine g_iadd X dX7_carry_93 rfl ?_
          refine g_topi (y := nI ((4 * k) + 1)) (nI_add ((4 * k)) (1)) ?_
          refine gM_ld_numbers X dX7_carry_94 (by first | rfl | assumption) (by omega) rfl ?_
          refine g_aload_n X dX7_carry_95 rfl 1 rfl rfl ?_
          refine gM_get_numbers X dX7_carry_96 hinX70 hl35 rfl ?_
          refine g_iload_n X dX7_carry_99 rfl 0 rfl rfl ?_
          refine g_iconst (v := (2 : Int32)) X dX7_carry_100 (by decide) rfl ?_
          refine g_iadd X dX7_carry_101 rfl ?_
          refine g_topi (y := nI ((4 * k) + 2)) (nI_add ((4 * k)) (2)) ?_
          refine gM_ld_numbers X dX7_carry_102 (by first | rfl | assumption) (by omega) rfl ?_
          refine g_aload_n X dX7_carry_103 rfl 1 rfl rfl ?_
          refine gM_get_numbers X dX7_carry_104 hinX70 hl35 rfl ?_
          refine g_iload_n X dX7_carry_107 rfl 0 rfl rfl ?_
          refine g_iconst (v := (3 : Int32)) X dX7_carry_108 (by decide) rfl ?_
          refine g_iadd X dX7_carry_109 rfl ?_
          refine g_topi (y := nI ((4 * k) + 3)) (nI_add ((4 * k)) (3)) ?_
          refine gM_ld_numbers X dX7_carry_110 (by first | rfl | assumption) (by omega) rfl ?_
          refine g_iconst (v := (0 : Int32)) X dX7_carry_111 (by decide) rfl ?_
          refine g_callVWs (n := 5) (As := [_, _, _, _, _]) (rest := []) X hAg rfl (c_X7_tryStamp l D _ _ _ _ _ _ _ _ _ _ _ _ _ _ _  i1 km hi1 hm mk nn b hW _ _ _ _  false) gX7_carry_X7_tryStamp rfl (by decide +kernel) ⟨Nat.le_of_ble_eq_true rfl, Nat.le_of_ble_eq_true rfl⟩ rfl rfl  rfl rfl (Nat.le_of_ble_eq_true rfl) dX7_carry_112 ⟨Nat.le_of_ble_eq_true rfl, Nat.le_of_ble_eq_true rfl⟩ rfl (fun v w hv => ?_)
          obtain ⟨fg1, fw1, wk1, rfl, rfl⟩ := hv
          refine ⟨rfl, ?_⟩
          refine g_st (st' := [_]) rfl ?_
          refine g_retW X hr (by first | rfl | exact b2i_nar _) dX7_carry_115 hAe ?_
          have hC : crS fa (ft k) (fn (4 * k)) (fn (4 * k + 1)) (fn (4 * k + 2)) (fn (4 * k + 3)) = stampS fa (fn (4 * k)) (fn (4 * k + 1)) (fn (4 * k + 2)) (fn (4 * k + 3)) := by unfold crS; rw [if_neg ne100, if_neg ne111, if_neg ne112, if_pos ec10]
          rw [hC]
          exact ⟨fg1, fw1, wk1, rfl, rfl⟩
        · rcases Classical.em ((ft k) = (116 : Int32)) with ec10 | ne116
          · refine g_lookup X dX7_carry_10 (by decide) (off := 134) (by rw [ec10]; decide) 144 (by decide) ?_
            refine g_aload_n X dX7_carry_144 rfl 1 rfl rfl ?_
            refine g_aload_n X dX7_carry_145 rfl 1 rfl rfl ?_
            refine gM_get_numbers X dX7_carry_146 hinX70 hl35 rfl ?_
            refine g_iload_n X dX7_carry_149 rfl 0 rfl rfl ?_
            refine gM_ld_numbers X dX7_carry_150 (by first | rfl | assumption) (by omega) rfl ?_
            refine g_iconst (v := (0 : Int32)) X dX7_carry_151 (by decide) rfl ?_
            refine g_callVWs (n := 2) (As := [_, _]) (rest := []) X hAg rfl (c_X7_tryTakeBack l D _ _ _ _ _ _ _ _ _ _ _ _ _ _ _  i1 km hi1 hm mk nn b hW _  false) gX7_carry_X7_tryTakeBack rfl (by decide +kernel) ⟨Nat.le_of_ble_eq_true rfl, Nat.le_of_ble_eq_true rfl⟩ rfl rfl  rfl rfl (Nat.le_of_ble_eq_true rfl) dX7_carry_152 ⟨Nat.le_of_ble_eq_true rfl, Nat.le_of_ble_eq_true rfl⟩ rfl (fun v w hv => ?_)
            obtain ⟨fg1, fw1, wk1, rfl, rfl⟩ := hv
            refine ⟨rfl, ?_⟩
            refine g_st (st' := [_]) rfl ?_
            refine g_retW X hr (by first | rfl | exact b2i_nar _) dX7_carry_155 hAe ?_
            have hC : crS fa (ft k) (fn (4 * k)) (fn (4 * k + 1)) (fn (4 * k + 2)) (fn (4 * k + 3)) = takeS fa (fn (4 * k)) := by unfold crS; rw [if_neg ne100, if_neg ne111, if_neg ne112, if_neg ne115, if_pos ec10]
            rw [hC]
            exact ⟨fg1, fw1, wk1, rfl, rfl⟩
          · refine g_lookup X dX7_carry_10 (by decide) (off := 174) (by show Op.lookupswitch.offset [(100, 146), (111, 50), (112, 106), (115, 70), (116, 134)] (174) ((ft k)).toInt = (174); rw [lv_osw (a := 100) ne100 rfl, lv_osw (a := 111) ne111 rfl, lv_osw (a := 112) ne112 rfl, lv_osw (a := 115) ne115 rfl, lv_osw (a := 116) ne116 rfl]; rfl) 184 (by decide) ?_
            refine g_aload_n X dX7_carry_184 rfl 1 rfl rfl ?_
            refine g_aload_n X dX7_carry_185 rfl 1 rfl rfl ?_
            refine gM_get_numbers X dX7_carry_186 hinX70 hl35 rfl ?_
            refine g_iload_n X dX7_carry_189 rfl 0 rfl rfl ?_
            refine gM_ld_numbers X dX7_carry_190 (by first | rfl | assumption) (by omega) rfl ?_
            refine g_aload_n X dX7_carry_191 rfl 1 rfl rfl ?_
            refine gM_get_numbers X dX7_carry_192 hinX70 hl35 rfl ?_
            refine g_iload_n X dX7_carry_195 rfl 0 rfl rfl ?_
            refine g_iconst (v := (1 : Int32)) X dX7_carry_196 (by decide) rfl ?_
            refine g_iadd X dX7_carry_197 rfl ?_
            refine g_topi (y := nI ((4 * k) + 1)) (nI_add ((4 * k)) (1)) ?_
            refine gM_ld_numbers X dX7_carry_198 (by first | rfl | assumption) (by omega) rfl ?_
            refine g_aload_n X dX7_carry_199 rfl 1 rfl rfl ?_
            refine gM_get_numbers X dX7_carry_200 hinX70 hl35 rfl ?_
            refine g_iload_n X dX7_carry_203 rfl 0 rfl rfl ?_
            refine g_iconst (v := (2 : Int32)) X dX7_carry_204 (by decide) rfl ?_
            refine g_iadd X dX7_carry_205 rfl ?_
            refine g_topi (y := nI ((4 * k) + 2)) (nI_add ((4 * k)) (2)) ?_
            refine gM_ld_numbers X dX7_carry_206 (by first | rfl | assumption) (by omega) rfl ?_
            refine g_iconst (v := (0 : Int32)) X dX7_carry_207 (by decide) rfl ?_
            refine g_callVWs (n := 4) (As := [_, _, _, _]) (rest := []) X hAg rfl (c_X7_tryCome l D _ _ _ _ _ _ _ _ _ _ _ _ _ _ _  i1 km hi1 hm mk nn b hW _ _ _  false) gX7_carry_X7_tryCome rfl (by decide +kernel) ⟨Nat.le_of_ble_eq_true rfl, Nat.le_of_ble_eq_true rfl⟩ rfl rfl  rfl rfl (Nat.le_of_ble_eq_true rfl) dX7_carry_208 ⟨Nat.le_of_ble_eq_true rfl, Nat.le_of_ble_eq_true rfl⟩ rfl (fun v w hv => ?_)
            obtain ⟨fg1, fw1, wk1, rfl, rfl⟩ := hv
            refine ⟨rfl, ?_⟩
            refine g_st (st' := [_]) rfl ?_
            refine g_retW X hr (by first | rfl | exact b2i_nar _) dX7_carry_211 hAe ?_
            have hC : crS fa (ft k) (fn (4 * k)) (fn (4 * k + 1)) (fn (4 * k + 2)) (fn (4 * k + 3)) = comeS fa (fn (4 * k)) (fn (4 * k + 1)) (fn (4 * k + 2)) := by unfold crS; rw [if_neg ne100, if_neg ne111, if_neg ne112, if_neg ne115, if_neg ne116]
            rw [hC]
            exact ⟨fg1, fw1, wk1, rfl, rfl⟩

set_option maxHeartbeats 4000000 in
set_option maxRecDepth 100000 in
theorem c_X7_carryOut (l : Launch) (D : DT) (a : Nat → Nat) (fa fp fs fv fg fw fd ft fn : Nat → Int32) (wk : Int32) (sp : Int32) (iw : Int32) (od : Int32) (i1 km : Nat) (hi1 : i1 < 6) (hm : km ≤ 6) (hx : WFx fa) (L : Nat) (hL : L ≤ 80) : MW l yX7_carryOut wsX7_carryOut 7 148 0 0 D [.ref (a 0)] (wM D a fa fp fs fv fg fw fd ft fn (nI i1) (nI km) wk (nI L) sp iw od) (fun v w2 => ∃ (fg fw ft1 fn1 : Nat → Int32) (wk sp iw od : Int32), ((fltR fd L fn ft).1.2.1 = true → v = some (.int (-3)) ∧ w2 = (wM D a fa fp fs fv fg fw fd ft1 fn1 (nI i1) (nI km) wk (nI L) sp iw od)) ∧ ((fltR fd L fn ft).1.2.1 = false → v = some (.int (nI (coI (fltR fd L fn ft).2.1 (fltR fd L fn ft).1.2.2 (fltR fd L fn ft).2.2 28 0 fa).1)) ∧ w2 = (wM D a (coI (fltR fd L fn ft).2.1 (fltR fd L fn ft).1.2.2 (fltR fd L fn ft).2.2 28 0 fa).2 (kF true fa fp i1 km) fs fv fg fw fd ft1 fn1 (nI (kA true i1 km)) (nI (kM true km)) wk 0 sp iw od))) := by
  refine MW.of (cc := cX7_carryOut) (maxL := 2) (ret := (some .int)) (lv := [(0, .ref (a 0))]) (by decide +kernel) rfl (Nat.le_of_ble_eq_true rfl) rfl ?_
  intro p e s m below meth c A hAe hAg X hr hmn
  have hinX70 : ∀ w ∈ wsX70, w ∈ wsX7_carryOut := fun w h => List.mem_cons_of_mem _ (List.mem_append_right _ h)
  have hl197 := List.mem_of_getElem? (l := wsX7_carryOut) (i := 1) rfl
  have hl184 := List.mem_of_getElem? (l := wsX7_carryOut) (i := 2) rfl
  refine g_aload_n X dX7_carryOut_0 rfl 0 rfl rfl ?_
  refine g_callVWs (n := 0) (As := []) (rest := []) X hAg rfl (c_X7_fault l D _ _ _ _ _ _ _ _ _ _ _ _ _ _ _ _  L hL) gX7_carryOut_X7_fault rfl (by decide +kernel) ⟨Nat.le_of_ble_eq_true rfl, Nat.le_of_ble_eq_true rfl⟩ rfl rfl  rfl rfl (Nat.le_of_ble_eq_true rfl) dX7_carryOut_1 ⟨Nat.le_of_ble_eq_true rfl, Nat.le_of_ble_eq_true rfl⟩ rfl (fun v w hv => ?_)
  obtain ⟨rfl, rfl, hyo, hyl⟩ := hv
  refine ⟨rfl, ?_⟩
  refine g_st (st' := [_]) rfl ?_
  refine g_if_lt X dX7_carryOut_4 10 (by decide) rfl (fun h4 => ?_) (fun h4 => ?_)
  · have i4 : _ < (0 : Int) := ic_lt h4
    have hwf : (fltR fd L fn ft).1.2.1 = false := by
      cases hq : (fltR fd L fn ft).1.2.1 with
      | false => rfl
      | true => exact absurd h4 (by unfold faultS; rw [if_pos hq]; exact nI_pos (by omega))
    have ho27 := hyo hwf
    refine g_aload_n X dX7_carryOut_10 rfl 0 rfl rfl ?_
    refine g_callVWs (n := 0) (As := []) (rest := []) X hAg rfl (c_X7_keep l D _ _ _ _ _ _ _ _ _ _ _ _ _ _ _  i1 km hi1 hm) gX7_carryOut_X7_keep rfl (by decide +kernel) ⟨Nat.le_of_ble_eq_true rfl, Nat.le_of_ble_eq_true rfl⟩ rfl rfl  rfl rfl (Nat.le_of_ble_eq_true rfl) dX7_carryOut_11 ⟨Nat.le_of_ble_eq_true rfl, Nat.le_of_ble_eq_true rfl⟩ rfl (fun v w hv => ?_)
    obtain ⟨rfl, rfl⟩ := hv
    refine ⟨rfl, ?_⟩
    refine g_st (st' := []) rfl ?_
    refine g_iconst (v := (0 : Int32)) X dX7_carryOut_14 (by decide) rfl ?_
    refine g_istore_n X [(1, _), (0, _)] dX7_carryOut_15 rfl (by decide) rfl rfl ?_
    have L16 : ∀ (n mm : Nat) (f1 fgx fwx : Nat → Int32) (wkx : Int32) (hmm : mm + n = 28) (hx1 : WFx f1) (hR : coI (fltR fd L fn ft).2.1 (fltR fd L fn ft).1.2.2 (fltR fd L fn ft).2.2 n mm f1 = coI (fltR fd L fn ft).2.1 (fltR fd L fn ft).1.2.2 (fltR fd L fn ft).2.2 28 0 fa), GG p l e (wRoom 7 148 0 0) s m ([.ref (a 0)] : List Value).toArray below meth c D A 2 false 0 0 (MQ below (wrQ D (wM D a fa fp fs fv fg fw fd ft fn (nI i1) (nI km) wk (nI L) sp iw od) s.heap.size (fun v w2 => ∃ (fg fw ft1 fn1 : Nat → Int32) (wk sp iw od : Int32), ((fltR fd L fn ft).1.2.1 = true → v = some (.int (-3)) ∧ w2 = (wM D a fa fp fs fv fg fw fd ft1 fn1 (nI i1) (nI km) wk (nI L) sp iw od)) ∧ ((fltR fd L fn ft).1.2.1 = false → v = some (.int (nI (coI (fltR fd L fn ft).2.1 (fltR fd L fn ft).1.2.2 (fltR fd L fn ft).2.2 28 0 fa).1)) ∧ w2 = (wM D a (coI (fltR fd L fn ft).2.1 (fltR fd L fn ft).1.2.2 (fltR fd L fn ft).2.2 28 0 fa).2 (kF true fa fp i1 km) fs fv fg fw fd ft1 fn1 (nI (kA true i1 km)) (nI (kM true km)) wk 0 sp iw od)))) ([.ref (a 0)] : List Value).toArray s 0 0 (va_A (wM D a fa fp fs fv fg fw fd ft fn (nI i1) (nI km) wk (nI L) sp iw od) s.heap.size)) (wM D a f1 (kF true fa fp i1 km) fs fv fgx fwx fd (fltR fd L fn ft).2.1 (fltR fd L fn ft).1.2.2 (nI (kA true i1 km)) (nI (kM true km)) wkx (nI L) (nI (fltR fd L fn ft).1.1) (b2i (fltR fd L fn ft).1.2.1) (nI (fltR fd L fn ft).2.2)) 16 [(1, .int (nI mm)), (0, .ref (a 0))] [] := by
      intro n
      induction n using Nat.strongRecOn with
      | _ n ih =>
      intro mm f1 fgx fwx wkx hmm hx1 hR
      refine g_iload_n X dX7_carryOut_16 rfl 0 rfl rfl ?_
      refine g_aload_n X dX7_carryOut_17 rfl 1 rfl rfl ?_
      refine gM_get_orders X dX7_carryOut_18 hinX70 hl197 rfl ?_
      refine g_icmp_ge X dX7_carryOut_21 38 (by decide) rfl (fun h21 => ?_) (fun h21 => ?_)
      · have i21 := nj_le (a := (fltR fd L fn ft).2.2) (b := mm) (by omega) (by omega) h21
        refine g_aload_n X dX7_carryOut_38 rfl 1 rfl rfl ?_
        refine g_iconst (v := (0 : Int32)) X dX7_carryOut_39 (by decide) rfl ?_
        refine gM_put_padMany X rfl dX7_carryOut_40 hinX70 hl184 rfl ?_
        refine g_iload_n X dX7_carryOut_43 rfl 0 rfl rfl ?_
        refine g_retW X hr (by first | rfl | exact b2i_nar _) dX7_carryOut_44 hAe ?_
        have hE : coI (fltR fd L fn ft).2.1 (fltR fd L fn ft).1.2.2 (fltR fd L fn ft).2.2 n mm f1 = (mm, f1) := by
          cases n with
          | zero => rfl
          | succ n => rw [coI, if_neg (by omega)]
        rw [← hR, hE]
        exact ⟨_, _, _, _, _, _, _, _, fun h => absurd (hwf.symm.trans h) (by decide), fun _ => ⟨rfl, rfl⟩⟩
      · have i21 := nj_nle (a := (fltR fd L fn ft).2.2) (b := mm) (by omega) (by omega) h21
        obtain ⟨mk2, n2, b2, hW2⟩ := id hx1
        refine g_aload_n X dX7_carryOut_24 rfl 1 rfl rfl ?_
        refine g_iload_n X dX7_carryOut_25 rfl 0 rfl rfl ?_
        refine g_callVWs (n := 1) (As := [_]) (rest := []) X hAg rfl (c_X7_carry l D _ _ _ _ _ _ _ _ _ _ _ _ _ _ _  (kA true i1 km) (kM true km) (kA_lt hi1) (kM_le hm) mk2 n2 b2 hW2 (mm) (by omega)) gX7_carryOut_X7_carry rfl (by decide +kernel) ⟨Nat.le_of_ble_eq_true rfl, Nat.le_of_ble_eq_true rfl⟩ rfl rfl  rfl rfl (Nat.le_of_ble_eq_true rfl) dX7_carryOut_26 ⟨Nat.le_of_ble_eq_true rfl, Nat.le_of_ble_eq_true rfl⟩ rfl (fun v w hv => ?_)
        obtain ⟨fg1, fw1, wk1, rfl, rfl⟩ := tryPost_f hv
        refine ⟨rfl, ?_⟩
        refine g_st (st' := [_]) rfl ?_
        refine g_if_lt X dX7_carryOut_29 38 (by decide) rfl (fun h29 => ?_) (fun h29 => ?_)
        · have i29 : _ < (0 : Int) := ic_lt h29
          refine g_aload_n X dX7_carryOut_38 rfl 1 rfl rfl ?_
          refine g_iconst (v := (0 : Int32)) X dX7_carryOut_39 (by decide) rfl ?_
          refine gM_put_padMany X rfl dX7_carryOut_40 hinX70 hl184 rfl ?_
          refine g_iload_n X dX7_carryOut_43 rfl 0 rfl rfl ?_
          refine g_retW X hr (by first | rfl | exact b2i_nar _) dX7_carryOut_44 hAe ?_
          obtain ⟨n1, rfl⟩ : ∃ n1, n = n1 + 1 := ⟨n - 1, by omega⟩
          rw [coI, if_pos i21, if_neg (Int32.not_le.mpr h29)] at hR
          rw [← hR]
          exact ⟨_, _, _, _, _, _, _, _, fun h => absurd (hwf.symm.trans h) (by decide), fun _ => ⟨rfl, rfl⟩⟩
        · have i29 : (0 : Int) ≤ _ := ic_nlt h29
          refine g_iinc (v := nI (mm + 1)) X [(1, _), (0, _)] dX7_carryOut_32 0 rfl (nI_add (mm) 1) (by decide) rfl rfl ?_
          refine g_goto X dX7_carryOut_35 16 (by decide) ?_
          obtain ⟨n1, rfl⟩ : ∃ n1, n = n1 + 1 := ⟨n - 1, by omega⟩
          rw [coI, if_pos i21, if_pos (Int32.not_lt.mp h29)] at hR
          exact ih n1 (by omega) (mm + 1) _ _ _ _ (by omega) (cr_ok hx1) hR
    exact L16 28 0 fa _ _ _ rfl hx rfl
  · have i4 : (0 : Int) ≤ _ := ic_nlt h4
    refine g_bipush (v := ((-3) : Int32)) X dX7_carryOut_7 (by decide) rfl ?_
    refine g_retW X hr (by first | rfl | exact b2i_nar _) dX7_carryOut_9 hAe ?_
    have hwf : (fltR fd L fn ft).1.2.1 = true := by
      cases hq : (fltR fd L fn ft).1.2.1 with
      | true => rfl
      | false => exact absurd (show (-6 : Int32) < 0 by decide) (by have h5 := h4; unfold faultS at h5; rw [if_neg (by rw [hq]; exact Bool.false_ne_true)] at h5; exact h5)
    exact ⟨_, _, _, _, _, _, _, _, fun _ => ⟨rfl, rfl⟩, fun h => absurd (hwf.symm.trans h) (by decide)⟩
