set_option maxHeartbeats 4000000 in
set_option maxRecDepth 100000 in
theorem c_X2_changeSetting (l : Launch) (D : DT) (a : Nat → Nat) (f : Nat → Int32) (na : Nat → Nat → Int32) (w : Nat → Int32) (mk n b : Nat) (hW : WF f mk n b) (hNR : NR f na n) (x v : Int32) : MW l yX2_changeSetting wsX2_changeSetting 3 66 0 0 D [.ref (a 0), .int x, .int v] (wHW D a f na w) (hPost D a (setS f x v)) := by
  obtain ⟨hmk, h40, hn8, hb0, hb1, hb8, hnb, hst, hno, how, hdo, hs1, hs2, hs3, hZF⟩ := id hW
  have h8 : n ≤ 8 := by omega
  obtain ⟨eN1, eN2, eN3⟩ := hW.N
  refine MW.of (cc := cX2_changeSetting) (maxL := 4) (ret := (some .int)) (lv := [(0, .ref (a 0)), (1, .int x), (2, .int v)]) (by decide +kernel) rfl (Nat.le_of_ble_eq_true rfl) rfl ?_
  intro p e s m below meth c A hAe hAg X hr hmn
  have hinX20 : ∀ w ∈ wsX20, w ∈ wsX2_changeSetting := fun w h => List.mem_cons_of_mem _ (List.mem_append_left _ (List.mem_append_right _ h))
  have hinX00 : ∀ w ∈ wsX00, w ∈ wsX2_changeSetting := fun w h => List.mem_cons_of_mem _ (List.mem_append_right _ h)
  have hl26 := List.mem_of_getElem? (l := wsX2_changeSetting) (i := 1) rfl
  have hl42 := List.mem_of_getElem? (l := wsX2_changeSetting) (i := 2) rfl
  refine g_iload_n X dX2_changeSetting_0 rfl 1 rfl rfl ?_
  refine g_if_lt X dX2_changeSetting_1 27 (by decide) rfl (fun h1 => ?_) (fun h1 => ?_)
  · have i1 : _ < (0 : Int) := ic_lt h1
    refine g_bipush (v := ((-2) : Int32)) X dX2_changeSetting_27 (by decide) rfl ?_
    refine g_retW X hr (by first | rfl | exact b2i_nar _) dX2_changeSetting_29 hAe ?_
    exact hPost_of (by
      unfold setS
      rw [if_neg ?_]
      intro z
      obtain ⟨z1, z2⟩ := Bool.and_eq_true_iff.mp z
      have z1 := of_decide_eq_true z1
      have z2 := of_decide_eq_true z2
      first
      | omega
      | (rw [← eLo, ← eHi] at z2; omega)) hNR hn8
  · have i1 : (0 : Int) ≤ _ := ic_nlt h1
    refine g_iload_n X dX2_changeSetting_4 rfl 1 rfl rfl ?_
    refine g_iconst (v := (4 : Int32)) X dX2_changeSetting_5 (by decide) rfl ?_
    refine g_icmp_ge X dX2_changeSetting_6 27 (by decide) rfl (fun h6 => ?_) (fun h6 => ?_)
    · have i6 : (4 : Int) ≤ _ := ic_le h6
      refine g_bipush (v := ((-2) : Int32)) X dX2_changeSetting_27 (by decide) rfl ?_
      refine g_retW X hr (by first | rfl | exact b2i_nar _) dX2_changeSetting_29 hAe ?_
      exact hPost_of (by
        unfold setS
        rw [if_neg ?_]
        intro z
        obtain ⟨z1, z2⟩ := Bool.and_eq_true_iff.mp z
        have z1 := of_decide_eq_true z1
        have z2 := of_decide_eq_true z2
        first
        | omega
        | (rw [← eLo, ← eHi] at z2; omega)) hNR hn8
    · have i6 : _ < (4 : Int) := ic_nle h6
      obtain ⟨q, hq, rfl⟩ : ∃ q : Nat, q < 4 ∧ x = nI q := rng_nI (decide_eq_true ⟨by omega, by omega⟩)
      obtain ⟨tL, hL⟩ := X.least
      obtain ⟨tM, hM⟩ := X.most
      have eLo := lim_lo q hq
      have eHi := lim_hi q hq
      have hrq : rng 4 (nI q) = true := rng_nI' hq (by omega)
      refine g_iload_n X dX2_changeSetting_9 rfl 2 rfl rfl ?_
      refine g_getsN (host := "VisaPages") X dX2_changeSetting_10 (by decide +kernel) hL.1 rfl ?_
      refine g_iload_n X dX2_changeSetting_13 rfl 1 rfl rfl ?_
      refine g_tld X hL.2 dX2_changeSetting_14 (by first | rfl | assumption) (by omega) (by decide) rfl ?_
      refine g_icmp_lt X dX2_changeSetting_15 27 (by decide) rfl (fun h15 => ?_) (fun h15 => ?_)
      · have i15 : _ < _ := ic_lt h15
        refine g_bipush (v := ((-2) : Int32)) X dX2_changeSetting_27 (by decide) rfl ?_
        refine g_retW X hr (by first | rfl | exact b2i_nar _) dX2_changeSetting_29 hAe ?_
        exact hPost_of (by
          unfold setS
          rw [if_neg ?_]
          intro z
          obtain ⟨z1, z2⟩ := Bool.and_eq_true_iff.mp z
          have z1 := of_decide_eq_true z1
          have z2 := of_decide_eq_true z2
          first
          | omega
          | (rw [← eLo, ← eHi] at z2; omega)) hNR hn8
      · have i15 : _ ≤ _ := ic_nlt h15
        refine g_iload_n X dX2_changeSetting_18 rfl 2 rfl rfl ?_
        refine g_getsN (host := "VisaPages") X dX2_changeSetting_19 (by decide +kernel) hM.1 rfl ?_
        refine g_iload_n X dX2_changeSetting_22 rfl 1 rfl rfl ?_
        refine g_tld X hM.2 dX2_changeSetting_23 (by first | rfl | assumption) (by omega) (by decide) rfl ?_
        refine g_icmp_le X dX2_changeSetting_24 30 (by decide) rfl (fun h24 => ?_) (fun h24 => ?_)
        · have i24 : _ ≤ _ := ic_le h24
          have hV : (if nI q = 0 then (1 : Int) else 0) ≤ v.toInt ∧ v.toInt ≤ (hiS (nI q)).toInt := ⟨by rw [← eLo]; exact i15, by rw [← eHi]; exact i24⟩
          have hC : (rng 4 (nI q) && decide ((if nI q = 0 then (1 : Int) else 0) ≤ v.toInt ∧ v.toInt ≤ (hiS (nI q)).toInt)) = true := by rw [hrq, decide_eq_true hV]; rfl
          obtain ⟨b2, hb2, hb28⟩ := set_b2 hb0 hb8 hq hV
          refine g_aload_n X dX2_changeSetting_30 rfl 0 rfl rfl ?_
          refine gH_get_House_settings X dX2_changeSetting_31 hinX20 hl26 rfl ?_
          refine g_iload_n X dX2_changeSetting_34 rfl 1 rfl rfl ?_
          refine gS_ld_settings X dX2_changeSetting_35 (by first | rfl | assumption) (by omega) rfl ?_
          refine g_istore_n X [(3, _), (0, _), (1, _), (2, _)] dX2_changeSetting_36 rfl (by decide) rfl rfl ?_
          refine g_aload_n X dX2_changeSetting_37 rfl 1 rfl rfl ?_
          refine gH_get_House_settings X dX2_changeSetting_38 hinX20 hl26 rfl ?_
          refine g_iload_n X dX2_changeSetting_41 rfl 2 rfl rfl ?_
          refine g_iload_n X dX2_changeSetting_42 rfl 3 rfl rfl ?_
          refine gS_st_settings X rfl dX2_changeSetting_43 (by first | rfl | assumption) (by omega) rfl ?_
          refine g_aload_n X dX2_changeSetting_44 rfl 1 rfl rfl ?_
          refine gH_get_House_board X dX2_changeSetting_45 hinX20 hl42 rfl ?_
          refine g_aload_n X dX2_changeSetting_48 rfl 1 rfl rfl ?_
          refine gH_get_House_settings X dX2_changeSetting_49 hinX20 hl26 rfl ?_
          refine g_iconst (v := (0 : Int32)) X dX2_changeSetting_52 (by decide) rfl ?_
          refine gS_ld_settings X dX2_changeSetting_53 (k := 0) rfl (by decide) rfl ?_
          refine g_topi (show _ = nI b2 from hb2) ?_
          refine g_callVWsq (n := 1) (As := [_]) (rest := []) X hAg rfl (c_X0_dropDownTo l D _ _ _ _ n ((up_n _ _ (by omega)).trans hn8) h8 (NR_up hNR (by omega) (by omega)) b2 hb28) gX2_changeSetting_X0_dropDownTo rfl (by decide +kernel) ⟨Nat.le_of_ble_eq_true rfl, Nat.le_of_ble_eq_true rfl⟩ 11 rfl rfl  rfl rfl (Nat.le_of_ble_eq_true rfl) dX2_changeSetting_54 ⟨Nat.le_of_ble_eq_true rfl, Nat.le_of_ble_eq_true rfl⟩ rfl (fun v w hv => ?_)
          obtain ⟨rfl, nb, rfl, hN2⟩ := hv
          refine ⟨rfl, ?_⟩
          refine g_st (st' := []) rfl ?_
          refine g_iload_n X dX2_changeSetting_57 rfl 0 rfl rfl ?_
          refine g_retW X hr (by first | rfl | exact b2i_nar _) dX2_changeSetting_58 hAe ?_
          exact hPost_of (by unfold setS; rw [if_pos hC, nI_clamp (by omega), eN2]; unfold bN; rw [hb2, nI_clamp (by omega)]) hN2 ((drI_o b2 n (up f q v) n (Nat.le_refl _) (by omega) ((up_n _ _ (by omega)).trans hn8)).2.1)
        · have i24 : _ < _ := ic_nle h24
          refine g_bipush (v := ((-2) : Int32)) X dX2_changeSetting_27 (by decide) rfl ?_
          refine g_retW X hr (by first | rfl | exact b2i_nar _) dX2_changeSetting_29 hAe ?_
          exact hPost_of (by
            unfold setS
            rw [if_neg ?_]
            intro z
            obtain ⟨z1, z2⟩ := Bool.and_eq_true_iff.mp z
            have z1 := of_decide_eq_true z1
            have z2 := of_decide_eq_true z2
            first
            | omega
            | (rw [← eLo, ← eHi] at z2; omega)) hNR hn8
