set_option maxHeartbeats 4000000 in
set_option maxRecDepth 100000 in
theorem c_L_refused (l : Launch) (D : DT) (a : Nat → Nat) (vv : Int32) : MW l yL_refused wsL_refused 8 179 400 8000 D [.ref (a 19), .int (vv)] (wB D a f0S na0S (fun _ => 0) (fun _ => 0) (fun _ => 0) 0 0 0 0 0 (fqa (fun _ => none)) (fqa (fun _ => none)) (tlW D (fun _ => none) (fun _ => none))) (fun v w9 => v = some (.int 1) ∧ ∃ (na' : Nat → Nat → Int32) (w' td' vl' : Nat → Int32) (pt' fl' : Nat) (kd' : Int32) (pq' : Nat → Option HH), AD w9 (wB D a f0S na0S (fun _ => 0) (fun _ => 0) (fun _ => 0) 0 0 0 0 0 (fqa (fun _ => none)) (fqa (fun _ => none)) (tlW D (fun _ => none) (fun _ => none))) ∧ w9 = wC D a f0S na' w' td' vl' 0 pt' fl' kd' 0 pq' (fun _ => none)) := by
  have h0AD : AD (wB D a f0S na0S (fun _ => 0) (fun _ => 0) (fun _ => 0) 0 0 0 0 0 (fqa (fun _ => none)) (fqa (fun _ => none)) (tlW D (fun _ => none) (fun _ => none))) (wB D a f0S na0S (fun _ => 0) (fun _ => 0) (fun _ => 0) 0 0 0 0 0 (fqa (fun _ => none)) (fqa (fun _ => none)) (tlW D (fun _ => none) (fun _ => none))) := AD.rf rfl
  refine MW.of (cc := cL_refused) (maxL := 3) (ret := (some .boolean)) (lv := [(0, .ref (a 19)), (1, .int (vv))]) (by decide +kernel) rfl (Nat.le_of_ble_eq_true rfl) rfl ?_
  intro p e s m below meth c A hAe hAg X hr hmn
  refine g_iload_n X dL_refused_0 rfl 1 rfl rfl ?_
  refine g_iconst (v := (2 : Int32)) X dL_refused_1 (by decide) rfl ?_
  refine g_callSR (n := 2) (As := [_, _]) (rest := []) X (c_L_up l D (vv) 2 (by omega)) gL_refused_L_up rfl (by decide +kernel) ⟨Nat.le_of_ble_eq_true rfl, Nat.le_of_ble_eq_true rfl⟩ [] rfl rfl rfl rfl (Nat.le_of_ble_eq_true rfl) dL_refused_2 ⟨Nat.le_of_ble_eq_true rfl, Nat.le_of_ble_eq_true rfl⟩ rfl (fun v hv => ?_)
  obtain rfl := hv
  refine g_st (st' := [_]) rfl ?_
  refine g_upn (by omega) (fun u2 hu2 eu2 => ?_)
  have L33 : ∀ (wq : Int32) (hB : BAD wq), GG p l e (wRoom 8 179 400 8000) s m ([.ref (a 19), .int (vv)] : List Value).toArray below meth c D A 3 false 0 0 (MQ below (wrQ D (wB D a f0S na0S (fun _ => 0) (fun _ => 0) (fun _ => 0) 0 0 0 0 0 (fqa (fun _ => none)) (fqa (fun _ => none)) (tlW D (fun _ => none) (fun _ => none))) s.heap.size (fun v w9 => v = some (.int 1) ∧ ∃ (na' : Nat → Nat → Int32) (w' td' vl' : Nat → Int32) (pt' fl' : Nat) (kd' : Int32) (pq' : Nat → Option HH), AD w9 (wB D a f0S na0S (fun _ => 0) (fun _ => 0) (fun _ => 0) 0 0 0 0 0 (fqa (fun _ => none)) (fqa (fun _ => none)) (tlW D (fun _ => none) (fun _ => none))) ∧ w9 = wC D a f0S na' w' td' vl' 0 pt' fl' kd' 0 pq' (fun _ => none))) ([.ref (a 19), .int (vv)] : List Value).toArray s 400 8000 (va_A (wB D a f0S na0S (fun _ => 0) (fun _ => 0) (fun _ => 0) 0 0 0 0 0 (fqa (fun _ => none)) (fqa (fun _ => none)) (tlW D (fun _ => none) (fun _ => none))) s.heap.size)) (wB D a f0S na0S (fun _ => 0) (fun _ => 0) (fun _ => 0) 0 0 0 0 0 (fqa (fun _ => none)) (fqa (fun _ => none)) (tlW D (fun _ => none) (fun _ => none))) 33 [(0, .ref (a 19)), (1, .int (vv))] [.int (wq)] := by
    intro wq hB
    refine g_istore_n X [(2, _), (0, _), (1, _)] dL_refused_33 rfl (by decide) rfl rfl ?_
    refine g_aload_n X dL_refused_34 rfl 1 rfl rfl ?_
    refine g_iload_n X dL_refused_35 rfl 0 rfl rfl ?_
    refine g_iconst (v := (1 : Int32)) X dL_refused_36 (by decide) rfl ?_
    refine g_callVXs (n := 2) (As := [_, _]) (rest := []) X hAg rfl (c_X6_set l D a f0S na0S (fun _ => 0) (fun _ => 0) (fun _ => 0) 0 0 0 0 0 (fun _ => none) (fun _ => none) 0 0 4 f0_WF (NR_0 _ _) f0_FB (Nat.zero_le _) HQ_0 _ _) gL_refused_X6_set rfl (by decide +kernel) ⟨Nat.le_of_ble_eq_true rfl, Nat.le_of_ble_eq_true rfl⟩ 20 rfl rfl rfl rfl (Nat.le_of_ble_eq_true rfl) dL_refused_37 ⟨Nat.le_of_ble_eq_true rfl, Nat.le_of_ble_eq_true rfl⟩ rfl (fun v w9 hv => ?_)
    have hE : setS f0S wq (1 : Int32) = (-2, f0S) := bd_set1 hB
    rw [hE] at hv
    obtain ⟨rfl, na37, w37, pq37, hA37, rfl⟩ := ch_ref hv (by decide)
    have hD37 := hA37.trans h0AD
    refine ⟨hA37, ?_⟩
    refine g_st (st' := [_]) rfl ?_
    refine g_bipush (v := ((-2) : Int32)) X dL_refused_40 (by decide) rfl ?_
    refine g_icmp_ne X dL_refused_42 456 (by decide) rfl (fun h42 => absurd h42 (by decide)) (fun h42 => ?_)
    refine g_aload_n X dL_refused_45 rfl 1 rfl rfl ?_
    refine g_iconst (v := (0 : Int32)) X dL_refused_46 (by decide) rfl ?_
    refine g_iload_n X dL_refused_47 rfl 0 rfl rfl ?_
    refine g_callVXs (n := 2) (As := [_, _]) (rest := []) X hAg rfl (c_X6_set l D a f0S na37 w37 (fun _ => 0) (fun _ => 0) 0 0 0 0 0 pq37 (fun _ => none) 0 0 4 f0_WF (NR_0 _ _) f0_FB (Nat.zero_le _) HQ_0 _ _) gL_refused_X6_set rfl (by decide +kernel) ⟨Nat.le_of_ble_eq_true rfl, Nat.le_of_ble_eq_true rfl⟩ 20 rfl rfl rfl rfl (Nat.le_of_ble_eq_true rfl) dL_refused_48 ⟨Nat.le_of_ble_eq_true rfl, Nat.le_of_ble_eq_true rfl⟩ rfl (fun v w9 hv => ?_)
    have hE : setS f0S (0 : Int32) wq = (-2, f0S) := bd_set2 hB
    rw [hE] at hv
    obtain ⟨rfl, na48, w48, pq48, hA48, rfl⟩ := ch_ref hv (by decide)
    have hD48 := hA48.trans hD37
    refine ⟨hA48, ?_⟩
    refine g_st (st' := [_]) rfl ?_
    refine g_bipush (v := ((-2) : Int32)) X dL_refused_51 (by decide) rfl ?_
    refine g_icmp_ne X dL_refused_53 456 (by decide) rfl (fun h53 => absurd h53 (by decide)) (fun h53 => ?_)
    refine g_aload_n X dL_refused_56 rfl 1 rfl rfl ?_
    refine g_iload_n X dL_refused_57 rfl 0 rfl rfl ?_
    refine g_iconst (v := (0 : Int32)) X dL_refused_58 (by decide) rfl ?_
    refine g_callVXs (n := 2) (As := [_, _]) (rest := []) X hAg rfl (c_X6_own l D a f0S na48 w48 (fun _ => 0) (fun _ => 0) 0 0 0 0 0 pq48 (fun _ => none) 0 0 4 f0_WF (NR_0 _ _) f0_FB (Nat.zero_le _) HQ_0 _ _) gL_refused_X6_own rfl (by decide +kernel) ⟨Nat.le_of_ble_eq_true rfl, Nat.le_of_ble_eq_true rfl⟩ 20 rfl rfl rfl rfl (Nat.le_of_ble_eq_true rfl) dL_refused_59 ⟨Nat.le_of_ble_eq_true rfl, Nat.le_of_ble_eq_true rfl⟩ rfl (fun v w9 hv => ?_)
    have hE : ownS f0S wq (0 : Int32) = (-1, f0S) := bd_own1 hB
    rw [hE] at hv
    obtain ⟨rfl, na59, w59, pq59, hA59, rfl⟩ := ch_ref hv (by decide)
    have hD59 := hA59.trans hD48
    refine ⟨hA59, ?_⟩
    refine g_st (st' := [_]) rfl ?_
    refine g_iconst (v := ((-1) : Int32)) X dL_refused_62 (by decide) rfl ?_
    refine g_icmp_ne X dL_refused_63 456 (by decide) rfl (fun h63 => absurd h63 (by decide)) (fun h63 => ?_)
    refine g_aload_n X dL_refused_66 rfl 1 rfl rfl ?_
    refine g_iconst (v := (0 : Int32)) X dL_refused_67 (by decide) rfl ?_
    refine g_iload_n X dL_refused_68 rfl 0 rfl rfl ?_
    refine g_callVXs (n := 2) (As := [_, _]) (rest := []) X hAg rfl (c_X6_own l D a f0S na59 w59 (fun _ => 0) (fun _ => 0) 0 0 0 0 0 pq59 (fun _ => none) 0 0 4 f0_WF (NR_0 _ _) f0_FB (Nat.zero_le _) HQ_0 _ _) gL_refused_X6_own rfl (by decide +kernel) ⟨Nat.le_of_ble_eq_true rfl, Nat.le_of_ble_eq_true rfl⟩ 20 rfl rfl rfl rfl (Nat.le_of_ble_eq_true rfl) dL_refused_69 ⟨Nat.le_of_ble_eq_true rfl, Nat.le_of_ble_eq_true rfl⟩ rfl (fun v w9 hv => ?_)
    have hE : ownS f0S (0 : Int32) wq = (-1, f0S) := bd_own2 hB
    rw [hE] at hv
    obtain ⟨rfl, na69, w69, pq69, hA69, rfl⟩ := ch_ref hv (by decide)
    have hD69 := hA69.trans hD59
    refine ⟨hA69, ?_⟩
    refine g_st (st' := [_]) rfl ?_
    refine g_iconst (v := ((-1) : Int32)) X dL_refused_72 (by decide) rfl ?_
    refine g_icmp_ne X dL_refused_73 456 (by decide) rfl (fun h73 => absurd h73 (by decide)) (fun h73 => ?_)
    refine g_aload_n X dL_refused_76 rfl 1 rfl rfl ?_
    refine g_iload_n X dL_refused_77 rfl 0 rfl rfl ?_
    refine g_iconst (v := (0 : Int32)) X dL_refused_78 (by decide) rfl ?_
    refine g_iconst (v := (0 : Int32)) X dL_refused_79 (by decide) rfl ?_
    refine g_iconst (v := (1 : Int32)) X dL_refused_80 (by decide) rfl ?_
    refine g_callVXs (n := 4) (As := [_, _, _, _]) (rest := []) X hAg rfl (c_X6_stamp l D a f0S na69 w69 (fun _ => 0) (fun _ => 0) 0 0 0 0 0 pq69 (fun _ => none) 0 0 4 f0_WF (NR_0 _ _) f0_FB (Nat.zero_le _) HQ_0 _ _ _ _) gL_refused_X6_stamp rfl (by decide +kernel) ⟨Nat.le_of_ble_eq_true rfl, Nat.le_of_ble_eq_true rfl⟩ 20 rfl rfl rfl rfl (Nat.le_of_ble_eq_true rfl) dL_refused_81 ⟨Nat.le_of_ble_eq_true rfl, Nat.le_of_ble_eq_true rfl⟩ rfl (fun v w9 hv => ?_)
    have hE : stampS f0S wq (0 : Int32) (0 : Int32) (1 : Int32) = (-1, f0S) := bd_st1 hB
    rw [hE] at hv
    obtain ⟨rfl, na81, w81, pq81, hA81, rfl⟩ := ch_ref hv (by decide)
    have hD81 := hA81.trans hD69
    refine ⟨hA81, ?_⟩
    refine g_st (st' := [_]) rfl ?_
    refine g_iconst (v := ((-1) : Int32)) X dL_refused_84 (by decide) rfl ?_
    refine g_icmp_ne X dL_refused_85 456 (by decide) rfl (fun h85 => absurd h85 (by decide)) (fun h85 => ?_)
    refine g_aload_n X dL_refused_88 rfl 1 rfl rfl ?_
    refine g_iconst (v := (0 : Int32)) X dL_refused_89 (by decide) rfl ?_
    refine g_iconst (v := (0 : Int32)) X dL_refused_90 (by decide) rfl ?_
    refine g_iload_n X dL_refused_91 rfl 0 rfl rfl ?_
    refine g_iconst (v := (1 : Int32)) X dL_refused_92 (by decide) rfl ?_
    refine g_callVXs (n := 4) (As := [_, _, _, _]) (rest := []) X hAg rfl (c_X6_stamp l D a f0S na81 w81 (fun _ => 0) (fun _ => 0) 0 0 0 0 0 pq81 (fun _ => none) 0 0 4 f0_WF (NR_0 _ _) f0_FB (Nat.zero_le _) HQ_0 _ _ _ _) gL_refused_X6_stamp rfl (by decide +kernel) ⟨Nat.le_of_ble_eq_true rfl, Nat.le_of_ble_eq_true rfl⟩ 20 rfl rfl rfl rfl (Nat.le_of_ble_eq_true rfl) dL_refused_93 ⟨Nat.le_of_ble_eq_true rfl, Nat.le_of_ble_eq_true rfl⟩ rfl (fun v w9 hv => ?_)
    have hE : stampS f0S (0 : Int32) (0 : Int32) wq (1 : Int32) = (-1, f0S) := bd_st2 hB
    rw [hE] at hv
    obtain ⟨rfl, na93, w93, pq93, hA93, rfl⟩ := ch_ref hv (by decide)
    have hD93 := hA93.trans hD81
    refine ⟨hA93, ?_⟩
    refine g_st (st' := [_]) rfl ?_
    refine g_iconst (v := ((-1) : Int32)) X dL_refused_96 (by decide) rfl ?_
    refine g_icmp_ne X dL_refused_97 456 (by decide) rfl (fun h97 => absurd h97 (by decide)) (fun h97 => ?_)
    refine g_aload_n X dL_refused_100 rfl 1 rfl rfl ?_
    refine g_iconst (v := (0 : Int32)) X dL_refused_101 (by decide) rfl ?_
    refine g_iconst (v := (0 : Int32)) X dL_refused_102 (by decide) rfl ?_
    refine g_iconst (v := (0 : Int32)) X dL_refused_103 (by decide) rfl ?_
    refine g_iload_n X dL_refused_104 rfl 0 rfl rfl ?_
    refine g_callVXs (n := 4) (As := [_, _, _, _]) (rest := []) X hAg rfl (c_X6_stamp l D a f0S na93 w93 (fun _ => 0) (fun _ => 0) 0 0 0 0 0 pq93 (fun _ => none) 0 0 4 f0_WF (NR_0 _ _) f0_FB (Nat.zero_le _) HQ_0 _ _ _ _) gL_refused_X6_stamp rfl (by decide +kernel) ⟨Nat.le_of_ble_eq_true rfl, Nat.le_of_ble_eq_true rfl⟩ 20 rfl rfl rfl rfl (Nat.le_of_ble_eq_true rfl) dL_refused_105 ⟨Nat.le_of_ble_eq_true rfl, Nat.le_of_ble_eq_true rfl⟩ rfl (fun v w9 hv => ?_)
    have hE : stampS f0S (0 : Int32) (0 : Int32) (0 : Int32) wq = (-2, f0S) := bd_st3 hB
    rw [hE] at hv
    obtain ⟨rfl, na105, w105, pq105, hA105, rfl⟩ := ch_ref hv (by decide)
    have hD105 := hA105.trans hD93
    refine ⟨hA105, ?_⟩
    refine g_st (st' := [_]) rfl ?_
    refine g_bipush (v := ((-2) : Int32)) X dL_refused_108 (by decide) rfl ?_
    refine g_icmp_ne X dL_refused_110 456 (by decide) rfl (fun h110 => absurd h110 (by decide)) (fun h110 => ?_)
    refine g_aload_n X dL_refused_113 rfl 1 rfl rfl ?_
    refine g_iconst (v := (0 : Int32)) X dL_refused_114 (by decide) rfl ?_
    refine g_iconst (v := (0 : Int32)) X dL_refused_115 (by decide) rfl ?_
    refine g_iconst (v := (0 : Int32)) X dL_refused_116 (by decide) rfl ?_
    refine g_iconst (v := (1 : Int32)) X dL_refused_117 (by decide) rfl ?_
    refine g_callVXs (n := 4) (As := [_, _, _, _]) (rest := []) X hAg rfl (c_X6_stamp l D a f0S na105 w105 (fun _ => 0) (fun _ => 0) 0 0 0 0 0 pq105 (fun _ => none) 0 0 4 f0_WF (NR_0 _ _) f0_FB (Nat.zero_le _) HQ_0 _ _ _ _) gL_refused_X6_stamp rfl (by decide +kernel) ⟨Nat.le_of_ble_eq_true rfl, Nat.le_of_ble_eq_true rfl⟩ 20 rfl rfl rfl rfl (Nat.le_of_ble_eq_true rfl) dL_refused_118 ⟨Nat.le_of_ble_eq_true rfl, Nat.le_of_ble_eq_true rfl⟩ rfl (fun v w9 hv => ?_)
    have hE : stampS f0S (0 : Int32) (0 : Int32) (0 : Int32) (1 : Int32) = (-5, f0S) := bd_st4
    rw [hE] at hv
    obtain ⟨rfl, na118, w118, pq118, hA118, rfl⟩ := ch_ref hv (by decide)
    have hD118 := hA118.trans hD105
    refine ⟨hA118, ?_⟩
    refine g_st (st' := [_]) rfl ?_
    refine g_bipush (v := ((-5) : Int32)) X dL_refused_121 (by decide) rfl ?_
    refine g_icmp_ne X dL_refused_123 456 (by decide) rfl (fun h123 => absurd h123 (by decide)) (fun h123 => ?_)
    refine g_aload_n X dL_refused_126 rfl 1 rfl rfl ?_
    refine g_iload_n X dL_refused_127 rfl 0 rfl rfl ?_
    refine g_iconst (v := (0 : Int32)) X dL_refused_128 (by decide) rfl ?_
    refine g_iconst (v := (1 : Int32)) X dL_refused_129 (by decide) rfl ?_
    refine g_callVXs (n := 3) (As := [_, _, _]) (rest := []) X hAg rfl (c_X6_pass l D a f0S na118 w118 (fun _ => 0) (fun _ => 0) 0 0 0 0 0 pq118 (fun _ => none) 0 0 4 f0_WF (NR_0 _ _) f0_FB (Nat.zero_le _) HQ_0 _ _ _) gL_refused_X6_pass rfl (by decide +kernel) ⟨Nat.le_of_ble_eq_true rfl, Nat.le_of_ble_eq_true rfl⟩ 20 rfl rfl rfl rfl (Nat.le_of_ble_eq_true rfl) dL_refused_130 ⟨Nat.le_of_ble_eq_true rfl, Nat.le_of_ble_eq_true rfl⟩ rfl (fun v w9 hv => ?_)
    have hE : passS f0S wq (0 : Int32) (1 : Int32) = (-1, f0S) := bd_pass hB
    rw [hE] at hv
    obtain ⟨rfl, na130, w130, pq130, hA130, rfl⟩ := ch_ref hv (by decide)
    have hD130 := hA130.trans hD118
    refine ⟨hA130, ?_⟩
    refine g_st (st' := [_]) rfl ?_
    refine g_iconst (v := ((-1) : Int32)) X dL_refused_133 (by decide) rfl ?_
    refine g_icmp_ne X dL_refused_134 456 (by decide) rfl (fun h134 => absurd h134 (by decide)) (fun h134 => ?_)
    refine g_aload_n X dL_refused_137 rfl 1 rfl rfl ?_
    refine g_iload_n X dL_refused_138 rfl 0 rfl rfl ?_
    refine g_iconst (v := (0 : Int32)) X dL_refused_139 (by decide) rfl ?_
    refine g_iconst (v := (0 : Int32)) X dL_refused_140 (by decide) rfl ?_
    refine g_iconst (v := (1 : Int32)) X dL_refused_141 (by decide) rfl ?_
    refine g_bipush (v := ((-6) : Int32)) X dL_refused_142 (by decide) rfl ?_
    refine g_callVXs (n := 5) (As := [_, _, _, _, _]) (rest := []) X hAg rfl (c_X6_forge l D a f0S na130 w130 (fun _ => 0) (fun _ => 0) 0 0 0 0 0 pq130 (fun _ => none) 0 0 4 f0_WF (NR_0 _ _) f0_FB (Nat.zero_le _) HQ_0 _ _ _ _ _) gL_refused_X6_forge rfl (by decide +kernel) ⟨Nat.le_of_ble_eq_true rfl, Nat.le_of_ble_eq_true rfl⟩ 20 rfl rfl rfl rfl (Nat.le_of_ble_eq_true rfl) dL_refused_144 ⟨Nat.le_of_ble_eq_true rfl, Nat.le_of_ble_eq_true rfl⟩ rfl (fun v w9 hv => ?_)
    have hE : forgeS f0S wq (0 : Int32) (0 : Int32) (1 : Int32) (-6 : Int32) = (-1, f0S) := bd_fo1 hB
    rw [hE] at hv
    obtain ⟨rfl, na144, w144, pq144, hA144, rfl⟩ := ch_ref hv (by decide)
    have hD144 := hA144.trans hD130
    refine ⟨hA144, ?_⟩
    refine g_st (st' := [_]) rfl ?_
    refine g_iconst (v := ((-1) : Int32)) X dL_refused_147 (by decide) rfl ?_
    refine g_icmp_ne X dL_refused_148 456 (by decide) rfl (fun h148 => absurd h148 (by decide)) (fun h148 => ?_)
    refine g_aload_n X dL_refused_151 rfl 1 rfl rfl ?_
    refine g_iconst (v := (0 : Int32)) X dL_refused_152 (by decide) rfl ?_
    refine g_iconst (v := (0 : Int32)) X dL_refused_153 (by decide) rfl ?_
    refine g_iconst (v := (0 : Int32)) X dL_refused_154 (by decide) rfl ?_
    refine g_iload_n X dL_refused_155 rfl 0 rfl rfl ?_
    refine g_bipush (v := ((-6) : Int32)) X dL_refused_156 (by decide) rfl ?_
    refine g_callVXs (n := 5) (As := [_, _, _, _, _]) (rest := []) X hAg rfl (c_X6_forge l D a f0S na144 w144 (fun _ => 0) (fun _ => 0) 0 0 0 0 0 pq144 (fun _ => none) 0 0 4 f0_WF (NR_0 _ _) f0_FB (Nat.zero_le _) HQ_0 _ _ _ _ _) gL_refused_X6_forge rfl (by decide +kernel) ⟨Nat.le_of_ble_eq_true rfl, Nat.le_of_ble_eq_true rfl⟩ 20 rfl rfl rfl rfl (Nat.le_of_ble_eq_true rfl) dL_refused_158 ⟨Nat.le_of_ble_eq_true rfl, Nat.le_of_ble_eq_true rfl⟩ rfl (fun v w9 hv => ?_)
    have hE : forgeS f0S (0 : Int32) (0 : Int32) (0 : Int32) wq (-6 : Int32) = (-2, f0S) := bd_fo2 hB
    rw [hE] at hv
    obtain ⟨rfl, na158, w158, pq158, hA158, rfl⟩ := ch_ref hv (by decide)
    have hD158 := hA158.trans hD144
    refine ⟨hA158, ?_⟩
    refine g_st (st' := [_]) rfl ?_
    refine g_bipush (v := ((-2) : Int32)) X dL_refused_161 (by decide) rfl ?_
    refine g_icmp_ne X dL_refused_163 456 (by decide) rfl (fun h163 => absurd h163 (by decide)) (fun h163 => ?_)
    refine g_aload_n X dL_refused_166 rfl 1 rfl rfl ?_
    refine g_iconst (v := (0 : Int32)) X dL_refused_167 (by decide) rfl ?_
    refine g_iconst (v := (0 : Int32)) X dL_refused_168 (by decide) rfl ?_
    refine g_iconst (v := (0 : Int32)) X dL_refused_169 (by decide) rfl ?_
    refine g_iconst (v := (1 : Int32)) X dL_refused_170 (by decide) rfl ?_
    refine g_iload_n X dL_refused_171 rfl 0 rfl rfl ?_
    refine g_callVXs (n := 5) (As := [_, _, _, _, _]) (rest := []) X hAg rfl (c_X6_forge l D a f0S na158 w158 (fun _ => 0) (fun _ => 0) 0 0 0 0 0 pq158 (fun _ => none) 0 0 4 f0_WF (NR_0 _ _) f0_FB (Nat.zero_le _) HQ_0 _ _ _ _ _) gL_refused_X6_forge rfl (by decide +kernel) ⟨Nat.le_of_ble_eq_true rfl, Nat.le_of_ble_eq_true rfl⟩ 20 rfl rfl rfl rfl (Nat.le_of_ble_eq_true rfl) dL_refused_172 ⟨Nat.le_of_ble_eq_true rfl, Nat.le_of_ble_eq_true rfl⟩ rfl (fun v w9 hv => ?_)
    have hE : forgeS f0S (0 : Int32) (0 : Int32) (0 : Int32) (1 : Int32) wq = (-1, f0S) := bd_fo3 hB
    rw [hE] at hv
    obtain ⟨rfl, na172, w172, pq172, hA172, rfl⟩ := ch_ref hv (by decide)
    have hD172 := hA172.trans hD158
    refine ⟨hA172, ?_⟩
    refine g_st (st' := [_]) rfl ?_
    refine g_iconst (v := ((-1) : Int32)) X dL_refused_175 (by decide) rfl ?_
    refine g_icmp_ne X dL_refused_176 456 (by decide) rfl (fun h176 => absurd h176 (by decide)) (fun h176 => ?_)
    refine g_aload_n X dL_refused_179 rfl 1 rfl rfl ?_
    refine g_iload_n X dL_refused_180 rfl 0 rfl rfl ?_
    refine g_callVXs (n := 1) (As := [_]) (rest := []) X hAg rfl (c_X6_takeBack l D a f0S na172 w172 (fun _ => 0) (fun _ => 0) 0 0 0 0 0 pq172 (fun _ => none) 0 0 4 f0_WF (NR_0 _ _) f0_FB (Nat.zero_le _) HQ_0 _) gL_refused_X6_takeBack rfl (by decide +kernel) ⟨Nat.le_of_ble_eq_true rfl, Nat.le_of_ble_eq_true rfl⟩ 20 rfl rfl rfl rfl (Nat.le_of_ble_eq_true rfl) dL_refused_181 ⟨Nat.le_of_ble_eq_true rfl, Nat.le_of_ble_eq_true rfl⟩ rfl (fun v w9 hv => ?_)
    have hE : takeS f0S wq = (-1, f0S) := bd_take hB
    rw [hE] at hv
    obtain ⟨rfl, na181, w181, pq181, hA181, rfl⟩ := ch_ref hv (by decide)
    have hD181 := hA181.trans hD172
    refine ⟨hA181, ?_⟩
    refine g_st (st' := [_]) rfl ?_
    refine g_iconst (v := ((-1) : Int32)) X dL_refused_184 (by decide) rfl ?_
    refine g_icmp_ne X dL_refused_185 456 (by decide) rfl (fun h185 => absurd h185 (by decide)) (fun h185 => ?_)
    refine g_aload_n X dL_refused_188 rfl 1 rfl rfl ?_
    refine g_iload_n X dL_refused_189 rfl 0 rfl rfl ?_
    refine g_iconst (v := (0 : Int32)) X dL_refused_190 (by decide) rfl ?_
    refine g_bipush (v := ((-6) : Int32)) X dL_refused_191 (by decide) rfl ?_
    refine g_callVXs (n := 3) (As := [_, _, _]) (rest := []) X hAg rfl (c_X6_door l D a f0S na181 w181 (fun _ => 0) (fun _ => 0) 0 0 0 0 0 pq181 (fun _ => none) 0 0 4 f0_WF (NR_0 _ _) f0_FB (Nat.zero_le _) HQ_0 _ _ _) gL_refused_X6_door rfl (by decide +kernel) ⟨Nat.le_of_ble_eq_true rfl, Nat.le_of_ble_eq_true rfl⟩ 20 rfl rfl rfl rfl (Nat.le_of_ble_eq_true rfl) dL_refused_193 ⟨Nat.le_of_ble_eq_true rfl, Nat.le_of_ble_eq_true rfl⟩ rfl (fun v w9 hv => ?_)
    have hE : doorS f0S wq (0 : Int32) (-6 : Int32) = (-1, f0S) := bd_do1 hB
    rw [hE] at hv
    obtain ⟨rfl, na193, w193, pq193, hA193, rfl⟩ := ch_ref hv (by decide)
    have hD193 := hA193.trans hD181
    refine ⟨hA193, ?_⟩
    refine g_st (st' := [_]) rfl ?_
    refine g_iconst (v := ((-1) : Int32)) X dL_refused_196 (by decide) rfl ?_
    refine g_icmp_ne X dL_refused_197 456 (by decide) rfl (fun h197 => absurd h197 (by decide)) (fun h197 => ?_)
    refine g_aload_n X dL_refused_200 rfl 1 rfl rfl ?_
    refine g_iconst (v := (0 : Int32)) X dL_refused_201 (by decide) rfl ?_
    refine g_iload_n X dL_refused_202 rfl 0 rfl rfl ?_
    refine g_bipush (v := ((-6) : Int32)) X dL_refused_203 (by decide) rfl ?_
    refine g_callVXs (n := 3) (As := [_, _, _]) (rest := []) X hAg rfl (c_X6_door l D a f0S na193 w193 (fun _ => 0) (fun _ => 0) 0 0 0 0 0 pq193 (fun _ => none) 0 0 4 f0_WF (NR_0 _ _) f0_FB (Nat.zero_le _) HQ_0 _ _ _) gL_refused_X6_door rfl (by decide +kernel) ⟨Nat.le_of_ble_eq_true rfl, Nat.le_of_ble_eq_true rfl⟩ 20 rfl rfl rfl rfl (Nat.le_of_ble_eq_true rfl) dL_refused_205 ⟨Nat.le_of_ble_eq_true rfl, Nat.le_of_ble_eq_true rfl⟩ rfl (fun v w9 hv => ?_)
    have hE : doorS f0S (0 : Int32) wq (-6 : Int32) = (-1, f0S) := bd_do2 hB
    rw [hE] at hv
    obtain ⟨rfl, na205, w205, pq205, hA205, rfl⟩ := ch_ref hv (by decide)
    have hD205 := hA205.trans hD193
    refine ⟨hA205, ?_⟩
    refine g_st (st' := [_]) rfl ?_
    refine g_iconst (v := ((-1) : Int32)) X dL_refused_208 (by decide) rfl ?_
    refine g_icmp_ne X dL_refused_209 456 (by decide) rfl (fun h209 => absurd h209 (by decide)) (fun h209 => ?_)
    refine g_aload_n X dL_refused_212 rfl 1 rfl rfl ?_
    refine g_iconst (v := (0 : Int32)) X dL_refused_213 (by decide) rfl ?_
    refine g_iconst (v := (0 : Int32)) X dL_refused_214 (by decide) rfl ?_
    refine g_iload_n X dL_refused_215 rfl 0 rfl rfl ?_
    refine g_callVXs (n := 3) (As := [_, _, _]) (rest := []) X hAg rfl (c_X6_door l D a f0S na205 w205 (fun _ => 0) (fun _ => 0) 0 0 0 0 0 pq205 (fun _ => none) 0 0 4 f0_WF (NR_0 _ _) f0_FB (Nat.zero_le _) HQ_0 _ _ _) gL_refused_X6_door rfl (by decide +kernel) ⟨Nat.le_of_ble_eq_true rfl, Nat.le_of_ble_eq_true rfl⟩ 20 rfl rfl rfl rfl (Nat.le_of_ble_eq_true rfl) dL_refused_216 ⟨Nat.le_of_ble_eq_true rfl, Nat.le_of_ble_eq_true rfl⟩ rfl (fun v w9 hv => ?_)
    have hE : doorS f0S (0 : Int32) (0 : Int32) wq = (-1, f0S) := bd_do3 hB
    rw [hE] at hv
    obtain ⟨rfl, na216, w216, pq216, hA216, rfl⟩ := ch_ref hv (by decide)
    have hD216 := hA216.trans hD205
    refine ⟨hA216, ?_⟩
    refine g_st (st' := [_]) rfl ?_
    refine g_iconst (v := ((-1) : Int32)) X dL_refused_219 (by decide) rfl ?_
    refine g_icmp_ne X dL_refused_220 456 (by decide) rfl (fun h220 => absurd h220 (by decide)) (fun h220 => ?_)
    refine g_aload_n X dL_refused_223 rfl 1 rfl rfl ?_
    refine g_iload_n X dL_refused_224 rfl 0 rfl rfl ?_
    refine g_iconst (v := (0 : Int32)) X dL_refused_225 (by decide) rfl ?_
    refine g_iconst (v := (1 : Int32)) X dL_refused_226 (by decide) rfl ?_
    refine g_callVXs (n := 3) (As := [_, _, _]) (rest := []) X hAg rfl (c_X6_come l D a f0S na216 w216 (fun _ => 0) (fun _ => 0) 0 0 0 0 0 pq216 (fun _ => none) 0 0 4 f0_WF (NR_0 _ _) f0_FB (Nat.zero_le _) HQ_0 _ _ _) gL_refused_X6_come rfl (by decide +kernel) ⟨Nat.le_of_ble_eq_true rfl, Nat.le_of_ble_eq_true rfl⟩ 20 rfl rfl rfl rfl (Nat.le_of_ble_eq_true rfl) dL_refused_227 ⟨Nat.le_of_ble_eq_true rfl, Nat.le_of_ble_eq_true rfl⟩ rfl (fun v w9 hv => ?_)
    have hE : comeS f0S wq (0 : Int32) (1 : Int32) = (-1, f0S) := bd_co1 hB
    rw [hE] at hv
    obtain ⟨rfl, na227, w227, pq227, hA227, rfl⟩ := ch_ref hv (by decide)
    have hD227 := hA227.trans hD216
    refine ⟨hA227, ?_⟩
    refine g_st (st' := [_]) rfl ?_
    refine g_iconst (v := ((-1) : Int32)) X dL_refused_230 (by decide) rfl ?_
    refine g_icmp_ne X dL_refused_231 456 (by decide) rfl (fun h231 => absurd h231 (by decide)) (fun h231 => ?_)
    refine g_aload_n X dL_refused_234 rfl 1 rfl rfl ?_
    refine g_iconst (v := (0 : Int32)) X dL_refused_235 (by decide) rfl ?_
    refine g_iconst (v := (0 : Int32)) X dL_refused_236 (by decide) rfl ?_
    refine g_iload_n X dL_refused_237 rfl 0 rfl rfl ?_
    refine g_callVXs (n := 3) (As := [_, _, _]) (rest := []) X hAg rfl (c_X6_come l D a f0S na227 w227 (fun _ => 0) (fun _ => 0) 0 0 0 0 0 pq227 (fun _ => none) 0 0 4 f0_WF (NR_0 _ _) f0_FB (Nat.zero_le _) HQ_0 _ _ _) gL_refused_X6_come rfl (by decide +kernel) ⟨Nat.le_of_ble_eq_true rfl, Nat.le_of_ble_eq_true rfl⟩ 20 rfl rfl rfl rfl (Nat.le_of_ble_eq_true rfl) dL_refused_238 ⟨Nat.le_of_ble_eq_true rfl, Nat.le_of_ble_eq_true rfl⟩ rfl (fun v w9 hv => ?_)
    have hE : comeS f0S (0 : Int32) (0 : Int32) wq = (-2, f0S) := bd_co2 hB
    rw [hE] at hv
    obtain ⟨rfl, na238, w238, pq238, hA238, rfl⟩ := ch_ref hv (by decide)
    have hD238 := hA238.trans hD227
    refine ⟨hA238, ?_⟩
    refine g_st (st' := [_]) rfl ?_
    refine g_bipush (v := ((-2) : Int32)) X dL_refused_241 (by decide) rfl ?_
    refine g_icmp_ne X dL_refused_243 456 (by decide) rfl (fun h243 => absurd h243 (by decide)) (fun h243 => ?_)
    refine g_aload_n X dL_refused_246 rfl 1 rfl rfl ?_
    refine g_iload_n X dL_refused_247 rfl 0 rfl rfl ?_
    refine g_iconst (v := (0 : Int32)) X dL_refused_248 (by decide) rfl ?_
    refine g_callVRX (w0 := []) (n := 2) (As := [_, _]) (rest := []) X (c_X6_ofPage l D a f0S na238 w238 (fun _ => 0) (fun _ => 0) 0 0 0 0 0 (fqa pq238) (fqa (fun _ => none)) (tlW D pq238 (fun _ => none)) 0 0 4 f0_WF (NR_0 _ _) _ _) gL_refused_X6_ofPage rfl (by decide +kernel) ⟨Nat.le_of_ble_eq_true rfl, Nat.le_of_ble_eq_true rfl⟩ 20 rfl rfl rfl rfl rfl (Nat.le_of_ble_eq_true rfl) dL_refused_249 ⟨Nat.le_of_ble_eq_true rfl, Nat.le_of_ble_eq_true rfl⟩ rfl (fun v hv => ?_)
    obtain rfl := hv
    refine g_st (st' := [_]) rfl ?_
    refine g_topi (bd_pg1 hB) ?_
    refine g_iconst (v := ((-1) : Int32)) X dL_refused_252 (by decide) rfl ?_
    refine g_icmp_ne X dL_refused_253 456 (by decide) rfl (fun h253 => absurd h253 (by decide)) (fun h253 => ?_)
    refine g_aload_n X dL_refused_256 rfl 1 rfl rfl ?_
    refine g_iconst (v := (0 : Int32)) X dL_refused_257 (by decide) rfl ?_
    refine g_iload_n X dL_refused_258 rfl 0 rfl rfl ?_
    refine g_callVRX (w0 := []) (n := 2) (As := [_, _]) (rest := []) X (c_X6_ofPage l D a f0S na238 w238 (fun _ => 0) (fun _ => 0) 0 0 0 0 0 (fqa pq238) (fqa (fun _ => none)) (tlW D pq238 (fun _ => none)) 0 0 4 f0_WF (NR_0 _ _) _ _) gL_refused_X6_ofPage rfl (by decide +kernel) ⟨Nat.le_of_ble_eq_true rfl, Nat.le_of_ble_eq_true rfl⟩ 20 rfl rfl rfl rfl rfl (Nat.le_of_ble_eq_true rfl) dL_refused_259 ⟨Nat.le_of_ble_eq_true rfl, Nat.le_of_ble_eq_true rfl⟩ rfl (fun v hv => ?_)
    obtain rfl := hv
    refine g_st (st' := [_]) rfl ?_
    refine g_topi (bd_pg2 hB) ?_
    refine g_bipush (v := ((-2) : Int32)) X dL_refused_262 (by decide) rfl ?_
    refine g_icmp_ne X dL_refused_264 456 (by decide) rfl (fun h264 => absurd h264 (by decide)) (fun h264 => ?_)
    refine g_aload_n X dL_refused_267 rfl 1 rfl rfl ?_
    refine g_iload_n X dL_refused_268 rfl 0 rfl rfl ?_
    refine g_iconst (v := (0 : Int32)) X dL_refused_269 (by decide) rfl ?_
    refine g_callVRX (w0 := []) (n := 2) (As := [_, _]) (rest := []) X (c_X6_ofStamp l D a f0S na238 w238 (fun _ => 0) (fun _ => 0) 0 0 0 0 0 (fqa pq238) (fqa (fun _ => none)) (tlW D pq238 (fun _ => none)) 0 0 4 f0_WF (NR_0 _ _) _ _) gL_refused_X6_ofStamp rfl (by decide +kernel) ⟨Nat.le_of_ble_eq_true rfl, Nat.le_of_ble_eq_true rfl⟩ 20 rfl rfl rfl rfl rfl (Nat.le_of_ble_eq_true rfl) dL_refused_270 ⟨Nat.le_of_ble_eq_true rfl, Nat.le_of_ble_eq_true rfl⟩ rfl (fun v hv => ?_)
    obtain rfl := hv
    refine g_st (st' := [_]) rfl ?_
    refine g_topi (bd_os hB) ?_
    refine g_iconst (v := ((-1) : Int32)) X dL_refused_273 (by decide) rfl ?_
    refine g_icmp_ne X dL_refused_274 456 (by decide) rfl (fun h274 => absurd h274 (by decide)) (fun h274 => ?_)
    refine g_aload_n X dL_refused_277 rfl 1 rfl rfl ?_
    refine g_iload_n X dL_refused_278 rfl 0 rfl rfl ?_
    refine g_iconst (v := (0 : Int32)) X dL_refused_279 (by decide) rfl ?_
    refine g_callVRX (w0 := []) (n := 2) (As := [_, _]) (rest := []) X (c_X6_leads l D a f0S na238 w238 (fun _ => 0) (fun _ => 0) 0 0 0 0 0 (fqa pq238) (fqa (fun _ => none)) (tlW D pq238 (fun _ => none)) 0 0 4 f0_WF (NR_0 _ _) _ _) gL_refused_X6_leads rfl (by decide +kernel) ⟨Nat.le_of_ble_eq_true rfl, Nat.le_of_ble_eq_true rfl⟩ 20 rfl rfl rfl rfl rfl (Nat.le_of_ble_eq_true rfl) dL_refused_280 ⟨Nat.le_of_ble_eq_true rfl, Nat.le_of_ble_eq_true rfl⟩ rfl (fun v hv => ?_)
    obtain rfl := hv
    refine g_st (st' := [_]) rfl ?_
    refine g_topi (bd_ld hB) ?_
    refine g_iconst (v := ((-1) : Int32)) X dL_refused_283 (by decide) rfl ?_
    refine g_icmp_ne X dL_refused_284 456 (by decide) rfl (fun h284 => absurd h284 (by decide)) (fun h284 => ?_)
    refine g_aload_n X dL_refused_287 rfl 1 rfl rfl ?_
    refine g_iload_n X dL_refused_288 rfl 0 rfl rfl ?_
    refine g_iconst (v := (0 : Int32)) X dL_refused_289 (by decide) rfl ?_
    refine g_callVRX (w0 := []) (n := 2) (As := [_, _]) (rest := []) X (c_X6_note l D a f0S na238 w238 (fun _ => 0) (fun _ => 0) 0 0 0 0 0 (fqa pq238) (fqa (fun _ => none)) (tlW D pq238 (fun _ => none)) 0 0 4 f0_WF (NR_0 _ _) _ _) gL_refused_X6_note rfl (by decide +kernel) ⟨Nat.le_of_ble_eq_true rfl, Nat.le_of_ble_eq_true rfl⟩ 20 rfl rfl rfl rfl rfl (Nat.le_of_ble_eq_true rfl) dL_refused_290 ⟨Nat.le_of_ble_eq_true rfl, Nat.le_of_ble_eq_true rfl⟩ rfl (fun v hv => ?_)
    obtain rfl := hv
    refine g_st (st' := [_]) rfl ?_
    refine g_topi (bd_no hB) ?_
    refine g_iconst (v := ((-1) : Int32)) X dL_refused_293 (by decide) rfl ?_
    refine g_icmp_ne X dL_refused_294 456 (by decide) rfl (fun h294 => absurd h294 (by decide)) (fun h294 => ?_)
    refine g_aload_n X dL_refused_297 rfl 1 rfl rfl ?_
    refine g_iload_n X dL_refused_298 rfl 0 rfl rfl ?_
    refine g_callVRX (w0 := []) (n := 1) (As := [_]) (rest := []) X (c_X6_count l D a f0S na238 w238 (fun _ => 0) (fun _ => 0) 0 0 0 0 0 (fqa pq238) (fqa (fun _ => none)) (tlW D pq238 (fun _ => none)) 0 0 4 f0_WF (NR_0 _ _) _) gL_refused_X6_count rfl (by decide +kernel) ⟨Nat.le_of_ble_eq_true rfl, Nat.le_of_ble_eq_true rfl⟩ 20 rfl rfl rfl rfl rfl (Nat.le_of_ble_eq_true rfl) dL_refused_299 ⟨Nat.le_of_ble_eq_true rfl, Nat.le_of_ble_eq_true rfl⟩ rfl (fun v hv => ?_)
    obtain rfl := hv
    refine g_st (st' := [_]) rfl ?_
    refine g_topi (bd_ct hB) ?_
    refine g_bipush (v := ((-2) : Int32)) X dL_refused_302 (by decide) rfl ?_
    refine g_icmp_ne X dL_refused_304 456 (by decide) rfl (fun h304 => absurd h304 (by decide)) (fun h304 => ?_)
    refine g_aload_n X dL_refused_307 rfl 1 rfl rfl ?_
    refine g_iload_n X dL_refused_308 rfl 0 rfl rfl ?_
    refine g_callVRX (w0 := []) (n := 1) (As := [_]) (rest := []) X (c_X6_ended l D a f0S na238 w238 (fun _ => 0) (fun _ => 0) 0 0 0 0 0 (fqa pq238) (fqa (fun _ => none)) (tlW D pq238 (fun _ => none)) 0 0 4 f0_WF (NR_0 _ _) _) gL_refused_X6_ended rfl (by decide +kernel) ⟨Nat.le_of_ble_eq_true rfl, Nat.le_of_ble_eq_true rfl⟩ 20 rfl rfl rfl rfl rfl (Nat.le_of_ble_eq_true rfl) dL_refused_309 ⟨Nat.le_of_ble_eq_true rfl, Nat.le_of_ble_eq_true rfl⟩ rfl (fun v hv => ?_)
    obtain rfl := hv
    refine g_st (st' := [_]) rfl ?_
    refine g_topi (bd_en hB) ?_
    refine g_bipush (v := ((-2) : Int32)) X dL_refused_312 (by decide) rfl ?_
    refine g_icmp_ne X dL_refused_314 456 (by decide) rfl (fun h314 => absurd h314 (by decide)) (fun h314 => ?_)
    refine g_aload_n X dL_refused_317 rfl 1 rfl rfl ?_
    refine g_iload_n X dL_refused_318 rfl 0 rfl rfl ?_
    refine g_iconst (v := (0 : Int32)) X dL_refused_319 (by decide) rfl ?_
    refine g_iconst (v := (1 : Int32)) X dL_refused_320 (by decide) rfl ?_
    refine g_iconst (v := (0 : Int32)) X dL_refused_321 (by decide) rfl ?_
    refine g_callVXs (n := 4) (As := [_, _, _, _]) (rest := []) X hAg rfl (c_X6_walk l D a f0S na238 w238 (fun _ => 0) (fun _ => 0) 0 0 0 0 0 (fqa pq238) (fqa (fun _ => none)) (tlW D pq238 (fun _ => none)) 0 0 4 f0_WF (NR_0 _ _) _ _ _ _) gL_refused_X6_walk rfl (by decide +kernel) ⟨Nat.le_of_ble_eq_true rfl, Nat.le_of_ble_eq_true rfl⟩ 20 rfl rfl rfl rfl (Nat.le_of_ble_eq_true rfl) dL_refused_322 ⟨Nat.le_of_ble_eq_true rfl, Nat.le_of_ble_eq_true rfl⟩ rfl (fun v w9 hv => ?_)
    obtain ⟨rfl, w322, rfl⟩ := hv
    refine ⟨AD.rf rfl, ?_⟩
    refine g_st (st' := [_]) rfl ?_
    have hD322 : AD (wB D a f0S na238 w322 (fun _ => 0) (fun _ => 0) 0 0 0 0 0 (fqa pq238) (fqa (fun _ => none)) (tlW D pq238 (fun _ => none))) (wB D a f0S na0S (fun _ => 0) (fun _ => 0) (fun _ => 0) 0 0 0 0 0 (fqa (fun _ => none)) (fqa (fun _ => none)) (tlW D (fun _ => none) (fun _ => none))) := AD.trans (v := wB D a f0S na238 w238 (fun _ => 0) (fun _ => 0) 0 0 0 0 0 (fqa pq238) (fqa (fun _ => none)) (tlW D pq238 (fun _ => none))) (AD.rf rfl) hD238
    refine g_topi (bd_wk1 hB) ?_
    refine g_iconst (v := ((-1) : Int32)) X dL_refused_325 (by decide) rfl ?_
    refine g_icmp_ne X dL_refused_326 456 (by decide) rfl (fun h326 => absurd h326 (by decide)) (fun h326 => ?_)
    refine g_aload_n X dL_refused_329 rfl 1 rfl rfl ?_
    refine g_iconst (v := (0 : Int32)) X dL_refused_330 (by decide) rfl ?_
    refine g_iconst (v := (0 : Int32)) X dL_refused_331 (by decide) rfl ?_
    refine g_iload_n X dL_refused_332 rfl 0 rfl rfl ?_
    refine g_iconst (v := (0 : Int32)) X dL_refused_333 (by decide) rfl ?_
    refine g_callVXs (n := 4) (As := [_, _, _, _]) (rest := []) X hAg rfl (c_X6_walk l D a f0S na238 w322 (fun _ => 0) (fun _ => 0) 0 0 0 0 0 (fqa pq238) (fqa (fun _ => none)) (tlW D pq238 (fun _ => none)) 0 0 4 f0_WF (NR_0 _ _) _ _ _ _) gL_refused_X6_walk rfl (by decide +kernel) ⟨Nat.le_of_ble_eq_true rfl, Nat.le_of_ble_eq_true rfl⟩ 20 rfl rfl rfl rfl (Nat.le_of_ble_eq_true rfl) dL_refused_334 ⟨Nat.le_of_ble_eq_true rfl, Nat.le_of_ble_eq_true rfl⟩ rfl (fun v w9 hv => ?_)
    obtain ⟨rfl, w334, rfl⟩ := hv
    refine ⟨AD.rf rfl, ?_⟩
    refine g_st (st' := [_]) rfl ?_
    have hD334 : AD (wB D a f0S na238 w334 (fun _ => 0) (fun _ => 0) 0 0 0 0 0 (fqa pq238) (fqa (fun _ => none)) (tlW D pq238 (fun _ => none))) (wB D a f0S na0S (fun _ => 0) (fun _ => 0) (fun _ => 0) 0 0 0 0 0 (fqa (fun _ => none)) (fqa (fun _ => none)) (tlW D (fun _ => none) (fun _ => none))) := AD.trans (v := wB D a f0S na238 w322 (fun _ => 0) (fun _ => 0) 0 0 0 0 0 (fqa pq238) (fqa (fun _ => none)) (tlW D pq238 (fun _ => none))) (AD.rf rfl) hD322
    refine g_topi (bd_wk2 hB) ?_
    refine g_bipush (v := ((-2) : Int32)) X dL_refused_337 (by decide) rfl ?_
    refine g_icmp_ne X dL_refused_339 456 (by decide) rfl (fun h339 => absurd h339 (by decide)) (fun h339 => ?_)
    refine g_aload_n X dL_refused_342 rfl 1 rfl rfl ?_
    refine g_iconst (v := (0 : Int32)) X dL_refused_343 (by decide) rfl ?_
    refine g_iconst (v := (0 : Int32)) X dL_refused_344 (by decide) rfl ?_
    refine g_iconst (v := (1 : Int32)) X dL_refused_345 (by decide) rfl ?_
    refine g_iload_n X dL_refused_346 rfl 0 rfl rfl ?_
    refine g_callVXs (n := 4) (As := [_, _, _, _]) (rest := []) X hAg rfl (c_X6_walk l D a f0S na238 w334 (fun _ => 0) (fun _ => 0) 0 0 0 0 0 (fqa pq238) (fqa (fun _ => none)) (tlW D pq238 (fun _ => none)) 0 0 4 f0_WF (NR_0 _ _) _ _ _ _) gL_refused_X6_walk rfl (by decide +kernel) ⟨Nat.le_of_ble_eq_true rfl, Nat.le_of_ble_eq_true rfl⟩ 20 rfl rfl rfl rfl (Nat.le_of_ble_eq_true rfl) dL_refused_347 ⟨Nat.le_of_ble_eq_true rfl, Nat.le_of_ble_eq_true rfl⟩ rfl (fun v w9 hv => ?_)
    obtain ⟨rfl, w347, rfl⟩ := hv
    refine ⟨AD.rf rfl, ?_⟩
    refine g_st (st' := [_]) rfl ?_
    have hD347 : AD (wB D a f0S na238 w347 (fun _ => 0) (fun _ => 0) 0 0 0 0 0 (fqa pq238) (fqa (fun _ => none)) (tlW D pq238 (fun _ => none))) (wB D a f0S na0S (fun _ => 0) (fun _ => 0) (fun _ => 0) 0 0 0 0 0 (fqa (fun _ => none)) (fqa (fun _ => none)) (tlW D (fun _ => none) (fun _ => none))) := AD.trans (v := wB D a f0S na238 w334 (fun _ => 0) (fun _ => 0) 0 0 0 0 0 (fqa pq238) (fqa (fun _ => none)) (tlW D pq238 (fun _ => none))) (AD.rf rfl) hD334
    refine g_topi (bd_wk3 hB) ?_
    refine g_bipush (v := ((-2) : Int32)) X dL_refused_350 (by decide) rfl ?_
    refine g_icmp_ne X dL_refused_352 456 (by decide) rfl (fun h352 => absurd h352 (by decide)) (fun h352 => ?_)
    refine g_aload_n X dL_refused_355 rfl 1 rfl rfl ?_
    refine g_iload_n X dL_refused_356 rfl 0 rfl rfl ?_
    refine g_callVRX (w0 := []) (n := 1) (As := [_]) (rest := []) X (c_X6_hides l D a f0S na238 w347 (fun _ => 0) (fun _ => 0) 0 0 0 0 0 (fqa pq238) (fqa (fun _ => none)) (tlW D pq238 (fun _ => none)) 0 0 4 f0_WF (NR_0 _ _) _) gL_refused_X6_hides rfl (by decide +kernel) ⟨Nat.le_of_ble_eq_true rfl, Nat.le_of_ble_eq_true rfl⟩ 20 rfl rfl rfl rfl rfl (Nat.le_of_ble_eq_true rfl) dL_refused_357 ⟨Nat.le_of_ble_eq_true rfl, Nat.le_of_ble_eq_true rfl⟩ rfl (fun v hv => ?_)
    obtain rfl := hv
    refine g_st (st' := [_]) rfl ?_
    refine g_topi (bd_hi hB) ?_
    refine g_iconst (v := ((-1) : Int32)) X dL_refused_360 (by decide) rfl ?_
    refine g_icmp_ne X dL_refused_361 456 (by decide) rfl (fun h361 => absurd h361 (by decide)) (fun h361 => ?_)
    refine g_aload_n X dL_refused_364 rfl 1 rfl rfl ?_
    refine g_iload_n X dL_refused_365 rfl 0 rfl rfl ?_
    refine g_callVRX (w0 := []) (n := 1) (As := [_]) (rest := []) X (c_X6_needless l D a f0S na238 w347 (fun _ => 0) (fun _ => 0) 0 0 0 0 0 (fqa pq238) (fqa (fun _ => none)) (tlW D pq238 (fun _ => none)) 0 0 4 f0_WF (NR_0 _ _) _) gL_refused_X6_needless rfl (by decide +kernel) ⟨Nat.le_of_ble_eq_true rfl, Nat.le_of_ble_eq_true rfl⟩ 20 rfl rfl rfl rfl rfl (Nat.le_of_ble_eq_true rfl) dL_refused_366 ⟨Nat.le_of_ble_eq_true rfl, Nat.le_of_ble_eq_true rfl⟩ rfl (fun v hv => ?_)
    obtain rfl := hv
    refine g_st (st' := [_]) rfl ?_
    refine g_topl (bd_nd hB) ?_
    refine g_ldc2 X dL_refused_369 (List.mem_of_getElem? (l := wsL_refused) (i := 2) rfl) rfl ?_
    refine g_lcmp X dL_refused_372 rfl ?_
    refine g_if_ne X dL_refused_373 456 (by decide) rfl (fun h373 => absurd (lg_self _) h373) (fun h373 => ?_)
    refine g_aload_n X dL_refused_376 rfl 1 rfl rfl ?_
    refine g_callVRX (w0 := []) (n := 0) (As := []) (rest := []) X (c_X6_longest l D a f0S na238 w347 (fun _ => 0) (fun _ => 0) 0 0 0 0 0 (fqa pq238) (fqa (fun _ => none)) (tlW D pq238 (fun _ => none)) 0 0 4 f0_WF (NR_0 _ _) ) gL_refused_X6_longest rfl (by decide +kernel) ⟨Nat.le_of_ble_eq_true rfl, Nat.le_of_ble_eq_true rfl⟩ 20 rfl rfl rfl rfl rfl (Nat.le_of_ble_eq_true rfl) dL_refused_377 ⟨Nat.le_of_ble_eq_true rfl, Nat.le_of_ble_eq_true rfl⟩ rfl (fun v hv => ?_)
    obtain rfl := hv
    refine g_st (st' := [_]) rfl ?_
    refine g_topi (bd_lg) ?_
    refine g_bipush (v := ((-6) : Int32)) X dL_refused_380 (by decide) rfl ?_
    refine g_icmp_ne X dL_refused_382 456 (by decide) rfl (fun h382 => absurd h382 (by decide)) (fun h382 => ?_)
    refine g_aload_n X dL_refused_385 rfl 1 rfl rfl ?_
    refine g_lconst (v := (0 : Int64)) X dL_refused_386 (by decide) rfl ?_
    refine g_callVXs (n := 1) (As := [_]) (rest := []) X hAg rfl (c_X6_put l D a f0S na238 w347 (fun _ => 0) (fun _ => 0) 0 0 0 0 0 (fqa pq238) (fqa (fun _ => none)) (tlW D pq238 (fun _ => none)) (Nat.zero_le _) 0 (by decide)) gL_refused_X6_put rfl (by decide +kernel) ⟨Nat.le_of_ble_eq_true rfl, Nat.le_of_ble_eq_true rfl⟩ 20 rfl rfl rfl rfl (Nat.le_of_ble_eq_true rfl) dL_refused_387 ⟨Nat.le_of_ble_eq_true rfl, Nat.le_of_ble_eq_true rfl⟩ rfl (fun v w9 hv => ?_)
    obtain ⟨rfl, rfl⟩ := hv
    rw [put_00.2.1, (put_00 (td := fun _ => 0)).2.2]
    refine ⟨AD.rf rfl, ?_⟩
    refine g_st (st' := [_]) rfl ?_
    refine g_topi ((put_00 (td := fun _ => 0)).1) ?_
    refine g_bipush (v := ((-2) : Int32)) X dL_refused_390 (by decide) rfl ?_
    refine g_icmp_ne X dL_refused_392 456 (by decide) rfl (fun h392 => absurd h392 (by decide)) (fun h392 => ?_)
    refine g_aload_n X dL_refused_395 rfl 1 rfl rfl ?_
    refine g_callVXs (n := 0) (As := []) (rest := []) X hAg rfl (c_X6_carryOut l D a f0S na238 w347 (fun _ => 0) (fun _ => 0) 0 0 0 0 0 pq238 (fun _ => none) 0 0 4 f0_WF (NR_0 _ _) f0_FB (Nat.zero_le _) HQ_0 (Nat.zero_le _) (fun k hk => absurd hk (Nat.not_lt_zero k))) gL_refused_X6_carryOut rfl (by decide +kernel) ⟨Nat.le_of_ble_eq_true rfl, Nat.le_of_ble_eq_true rfl⟩ 20 rfl rfl rfl rfl (Nat.le_of_ble_eq_true rfl) dL_refused_396 ⟨Nat.le_of_ble_eq_true rfl, Nat.le_of_ble_eq_true rfl⟩ rfl (fun v w9 hv => ?_)
    obtain ⟨hAcx, hv⟩ := hv
    have hv1 := hv.resolve_right (fun z => yf_00 z.1)
    obtain ⟨-, ev1, p9, f9, v9, k9, ew1⟩ := hv1
    have hDc := AD.trans hAcx hD347
    subst ev1
    subst ew1
    refine ⟨hAcx, ?_⟩
    refine g_st (st' := [_]) rfl ?_
    refine g_bipush (v := ((-3) : Int32)) X dL_refused_399 (by decide) rfl ?_
    refine g_icmp_ne X dL_refused_401 456 (by decide) rfl (fun h401 => absurd h401 (by decide)) (fun h401 => ?_)
    refine g_aload_n X dL_refused_404 rfl 1 rfl rfl ?_
    refine g_iload_n X dL_refused_405 rfl 0 rfl rfl ?_
    refine g_callVXs (n := 1) (As := [_]) (rest := []) X hAg rfl (c_X6_save l D a f0S na238 w347 (fun _ => 0) v9 0 p9 f9 k9 0 pq238 (fun _ => none) f0_FB _) gL_refused_X6_save rfl (by decide +kernel) ⟨Nat.le_of_ble_eq_true rfl, Nat.le_of_ble_eq_true rfl⟩ 20 rfl rfl rfl rfl (Nat.le_of_ble_eq_true rfl) dL_refused_406 ⟨Nat.le_of_ble_eq_true rfl, Nat.le_of_ble_eq_true rfl⟩ rfl (fun v w9 hv => ?_)
    obtain ⟨-, hv⟩ := hv
    rcases hv with ⟨hr2, -⟩ | ⟨-, rfl, rfl⟩
    · exact absurd hr2 (by rw [hB.r 2 (by omega)]; exact Bool.false_ne_true)
    refine ⟨AD.rf rfl, ?_⟩
    refine g_st (st' := [_]) rfl ?_
    refine g_bipush (v := ((-2) : Int32)) X dL_refused_409 (by decide) rfl ?_
    refine g_icmp_ne X dL_refused_411 456 (by decide) rfl (fun h411 => absurd h411 (by decide)) (fun h411 => ?_)
    refine g_aload_n X dL_refused_414 rfl 1 rfl rfl ?_
    refine g_iload_n X dL_refused_415 rfl 0 rfl rfl ?_
    refine g_callVXs (n := 1) (As := [_]) (rest := []) X hAg rfl (c_X6_restore l D a f0S na238 w347 (fun _ => 0) v9 0 p9 f9 k9 0 pq238 (fun _ => none) f0_FB (Nat.zero_le _) HQ_0 (fun q _ h e => by cases e) _) gL_refused_X6_restore rfl (by decide +kernel) ⟨Nat.le_of_ble_eq_true rfl, Nat.le_of_ble_eq_true rfl⟩ 20 rfl rfl rfl rfl (Nat.le_of_ble_eq_true rfl) dL_refused_416 ⟨Nat.le_of_ble_eq_true rfl, Nat.le_of_ble_eq_true rfl⟩ rfl (fun v w9 hv => ?_)
    obtain ⟨-, hv⟩ := hv
    rcases hv with ⟨-, rfl, rfl⟩ | ⟨hr2, -⟩ | ⟨hr2, -⟩
    rotate_left
    · exact absurd hr2 (by rw [hB.r 2 (by omega)]; exact Bool.false_ne_true)
    · exact absurd hr2 (by rw [hB.r 2 (by omega)]; exact Bool.false_ne_true)
    refine ⟨AD.rf rfl, ?_⟩
    refine g_st (st' := [_]) rfl ?_
    refine g_bipush (v := ((-2) : Int32)) X dL_refused_419 (by decide) rfl ?_
    refine g_icmp_ne X dL_refused_421 456 (by decide) rfl (fun h421 => absurd h421 (by decide)) (fun h421 => ?_)
    refine g_aload_n X dL_refused_424 rfl 1 rfl rfl ?_
    refine g_iconst (v := (0 : Int32)) X dL_refused_425 (by decide) rfl ?_
    refine g_callVXs (n := 1) (As := [_]) (rest := []) X hAg rfl (c_X6_restore l D a f0S na238 w347 (fun _ => 0) v9 0 p9 f9 k9 0 pq238 (fun _ => none) f0_FB (Nat.zero_le _) HQ_0 (fun q _ h e => by cases e) _) gL_refused_X6_restore rfl (by decide +kernel) ⟨Nat.le_of_ble_eq_true rfl, Nat.le_of_ble_eq_true rfl⟩ 20 rfl rfl rfl rfl (Nat.le_of_ble_eq_true rfl) dL_refused_426 ⟨Nat.le_of_ble_eq_true rfl, Nat.le_of_ble_eq_true rfl⟩ rfl (fun v w9 hv => ?_)
    obtain ⟨-, hv⟩ := hv
    rcases hv with ⟨hr2, -⟩ | ⟨-, -, rfl, rfl⟩ | ⟨-, bR, gR, nbR, b0R, hz, -⟩
    · exact absurd hr2 (by decide)
    rotate_left
    · cases hz
    refine ⟨AD.rf rfl, ?_⟩
    refine g_st (st' := [_]) rfl ?_
    refine g_bipush (v := ((-5) : Int32)) X dL_refused_429 (by decide) rfl ?_
    refine g_icmp_ne X dL_refused_431 456 (by decide) rfl (fun h431 => absurd h431 (by decide)) (fun h431 => ?_)
    refine g_aload_n X dL_refused_434 rfl 1 rfl rfl ?_
    refine g_callVXs (n := 0) (As := []) (rest := []) X hAg rfl (c_X6_undo l D a f0S na238 w347 (fun _ => 0) v9 0 p9 f9 k9 0 pq238 (fun _ => none) (Nat.zero_le _) HQ_0 HF_0) gL_refused_X6_undo rfl (by decide +kernel) ⟨Nat.le_of_ble_eq_true rfl, Nat.le_of_ble_eq_true rfl⟩ 20 rfl rfl rfl rfl (Nat.le_of_ble_eq_true rfl) dL_refused_435 ⟨Nat.le_of_ble_eq_true rfl, Nat.le_of_ble_eq_true rfl⟩ rfl (fun v w9 hv => ?_)
    obtain ⟨r9, rfl, hv⟩ := hv
    rcases hv with ⟨-, rfl, rfl⟩ | ⟨hk0, -⟩
    rotate_left
    · exact absurd hk0 (Nat.lt_irrefl 0)
    refine ⟨AD.rf rfl, ?_⟩
    refine g_st (st' := [_]) rfl ?_
    refine g_bipush (v := ((-5) : Int32)) X dL_refused_438 (by decide) rfl ?_
    refine g_icmp_ne X dL_refused_440 456 (by decide) rfl (fun h440 => absurd h440 (by decide)) (fun h440 => ?_)
    refine g_aload_n X dL_refused_443 rfl 1 rfl rfl ?_
    refine g_bipush (v := (14 : Int32)) X dL_refused_444 (by decide) rfl ?_
    refine g_callVRX (w0 := []) (n := 1) (As := [_]) (rest := []) X (c_X6_count l D a f0S na238 w347 (fun _ => 0) v9 0 p9 f9 k9 0 (fqa pq238) (fqa (fun _ => none)) (tlW D pq238 (fun _ => none)) 0 0 4 f0_WF (NR_0 _ _) _) gL_refused_X6_count rfl (by decide +kernel) ⟨Nat.le_of_ble_eq_true rfl, Nat.le_of_ble_eq_true rfl⟩ 20 rfl rfl rfl rfl rfl (Nat.le_of_ble_eq_true rfl) dL_refused_446 ⟨Nat.le_of_ble_eq_true rfl, Nat.le_of_ble_eq_true rfl⟩ rfl (fun v hv => ?_)
    obtain rfl := hv
    refine g_st (st' := [_]) rfl ?_
    refine g_topi (oC14) ?_
    refine g_if_ne X dL_refused_449 456 (by decide) rfl (fun h449 => absurd h449 (by decide)) (fun h449 => ?_)
    refine g_iconst (v := (1 : Int32)) X dL_refused_452 (by decide) rfl ?_
    refine g_goto X dL_refused_453 457 (by decide) ?_
    refine g_widen 400 8000 (Nat.le_of_ble_eq_true rfl) (Nat.le_of_ble_eq_true rfl) ?_
    refine g_retW X hr (by first | rfl | exact b2i_nar _) dL_refused_457 hAe ?_
    exact ⟨rfl, na238, w347, _, v9, p9, f9, k9, pq238, hDc, rfl⟩
  refine g_if_ne X dL_refused_5 22 (by decide) rfl (fun h5 => ?_) (fun h5 => ?_)
  · have i5 := nj_ne (a := u2) (b := 0) (by omega) (by omega) h5
    refine g_bipush (v := (15 : Int32)) X dL_refused_22 (by decide) rfl ?_
    refine g_iload_n X dL_refused_24 rfl 1 rfl rfl ?_
    refine g_iconst (v := (1 : Int32)) X dL_refused_25 (by decide) rfl ?_
    refine g_ishr X dL_refused_26 rfl ?_
    refine g_ldcI X dL_refused_27 (List.mem_of_getElem? (l := wsL_refused) (i := 1) rfl) rfl ?_
    refine g_callSR (n := 2) (As := [_, _]) (rest := [_]) X (c_L_up l D ((vv >>> ((1 : Int32) &&& 31))) 1000000000 (by omega)) gL_refused_L_up rfl (by decide +kernel) ⟨Nat.le_of_ble_eq_true rfl, Nat.le_of_ble_eq_true rfl⟩ [] rfl rfl rfl rfl (Nat.le_of_ble_eq_true rfl) dL_refused_29 ⟨Nat.le_of_ble_eq_true rfl, Nat.le_of_ble_eq_true rfl⟩ rfl (fun v hv => ?_)
    obtain rfl := hv
    refine g_st (st' := [_, _]) rfl ?_
    refine g_upn (by omega) (fun u29 hu29 eu29 => ?_)
    refine g_iadd X dL_refused_32 rfl ?_
    refine g_topi (y := nI (15 + u29)) (nI_add 15 u29) ?_
    exact L33 _ (bad_hi hu29)
  · have i5 := nj_eq (a := u2) (b := 0) (by omega) (by omega) h5
    refine g_bipush (v := ((-7) : Int32)) X dL_refused_8 (by decide) rfl ?_
    refine g_iload_n X dL_refused_10 rfl 1 rfl rfl ?_
    refine g_iconst (v := (1 : Int32)) X dL_refused_11 (by decide) rfl ?_
    refine g_ishr X dL_refused_12 rfl ?_
    refine g_ldcI X dL_refused_13 (List.mem_of_getElem? (l := wsL_refused) (i := 1) rfl) rfl ?_
    refine g_callSR (n := 2) (As := [_, _]) (rest := [_]) X (c_L_up l D ((vv >>> ((1 : Int32) &&& 31))) 1000000000 (by omega)) gL_refused_L_up rfl (by decide +kernel) ⟨Nat.le_of_ble_eq_true rfl, Nat.le_of_ble_eq_true rfl⟩ [] rfl rfl rfl rfl (Nat.le_of_ble_eq_true rfl) dL_refused_15 ⟨Nat.le_of_ble_eq_true rfl, Nat.le_of_ble_eq_true rfl⟩ rfl (fun v hv => ?_)
    obtain rfl := hv
    refine g_st (st' := [_, _]) rfl ?_
    refine g_upn (by omega) (fun u15 hu15 eu15 => ?_)
    refine g_isub X dL_refused_18 rfl ?_
    refine g_goto X dL_refused_19 33 (by decide) ?_
    exact L33 _ (bad_lo hu15)
