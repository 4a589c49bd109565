set_option maxHeartbeats 8000000 in
set_option maxRecDepth 100000 in
theorem law_loop (l : Launch) {p : Program} {e : Env} {s : State} {m : MethodId} {b : Nat} {below : List Frame} {meth : Method} {c : Code} {D : DT} {A : Nat → Prop} {Q : State → Prop} {a a2 : Nat → Nat} {xs : Nat → Int32} {L : Nat} (hG : GX p l e room_1 s m #[Value.ref b] below meth c D A 4 code RL wsL_law) (hAg : ∀ q, s.heap.size ≤ q → A q) (hX : va_X b L xs s s.heap) (hbl : b < s.heap.size) (hbA : ¬ A b) (hL : L ≤ 3072)
    (hend : ∀ (ws : va_W) (cs sl : Nat) (lv : List (Nat × Value)), cs ≤ 600000 → sl ≤ 7302250 → GG p l e room_1 s m #[Value.ref b] below meth c D A 4 false cs sl Q ws 947 lv []) :
    ∀ (N t cs sl : Nat), L + 6 ≤ 6 * t + N → t ≤ 512 → cs ≤ 100 + 18 * t → sl ≤ 5000 + 420 * t → ∀ (f : Nat → Int32) (na : Nat → Nat → Int32) (w td vl : Nat → Int32) (Lp pt fl : Nat) (kd : Int32) (kp : Nat) (pq ps : Nat → Option HH) (fp fs fv fg fw ft fn : Nat → Int32) (i1 : Nat) (wk sp iw od : Int32) (sv : Nat → Bool), INV f na td Lp kp kp pq ps fp fs fv i1 sv → GG p l e room_1 s m #[Value.ref b] below meth c D A 4 false cs sl Q (wL D a a2 f na w td vl Lp pt fl kd kp kp pq ps fp fs fv fg fw ft fn i1 wk sp iw od) 18 [(0, .ref b), (1, .ref (a 19)), (2, .ref (a2 0)), (3, .int (nI (6 * t)))] [] := by
  intro N
  induction N using Nat.strongRecOn with
  | _ N ih =>
  intro t cs sl hN ht hcs hsl f na w td vl Lp pt fl kd kp pq ps fp fs fv fg fw ft fn i1 wk sp iw od sv hI
  refine g_iload_n hG dL_law_18 rfl 3 rfl rfl ?_
  refine g_aload_n hG dL_law_19 rfl 0 rfl rfl ?_
  refine g_slenL hG hX hbl hbA dL_law_20 rfl ?_
  refine g_bipush (v := (6 : Int32)) hG dL_law_21 (by decide) rfl ?_
  refine g_isub hG dL_law_23 rfl ?_
  refine g_icmp_gt hG dL_law_24 947 (by decide) rfl (fun _ => hend _ _ _ _ (by omega) (by omega)) (fun h24 => ?_)
  have hi6 := len6 hL h24 ht
  have hb9 : LGO p l e s m b below meth c D A a a2 (cs + 18) (sl + 420) Q (6 * t) := by
    intro f na w td vl Lp pt fl kd kp km pq ps fp fs fv fg fw ft fn i1 wk sp iw od sv hI
    have hkm := hI.2.2.2.2.2.2.1
    subst hkm
    refine g_iinc (v := nI (6 * t + 6)) hG [(3, .int (nI (6 * t + 6))), (0, .ref b), (1, .ref (a 19)), (2, .ref (a2 0))] dL_law_941 3 rfl (nI_add (6 * t) 6) (by decide) rfl rfl ?_
    refine g_goto hG dL_law_944 18 (by decide) ?_
    refine g_lv [1, 2, 3, 0] [(0, .ref b), (1, .ref (a 19)), (2, .ref (a2 0)), (3, .int (nI (6 * t + 6)))] rfl ?_
    exact ih (N - 6) (by omega) (t + 1) (cs + 18) (sl + 420) (by omega) (by omega) (by omega) (by omega) _ _ _ _ _ _ _ _ _ _ _ _ _ _ _ _ _ _ _ _ _ _ _ _ _ hI
  refine g_aload_n hG dL_law_27 rfl 0 rfl rfl ?_
  refine g_iload_n hG dL_law_28 rfl 3 rfl rfl ?_
  refine g_sld (k := 6 * t) hG hX hbl hbA dL_law_29 rfl (by omega) (by omega) rfl ?_
  refine g_bipush (v := (31 : Int32)) hG dL_law_30 (by decide) rfl ?_
  refine g_iand hG dL_law_32 rfl ?_
  refine g_table hG dL_law_33 (fun v : Int => if v = 0 then 152 else if v = 1 then 185 else if v = 2 then 218 else if v = 3 then 271 else if v = 4 then 314 else if v = 5 then 377 else if v = 6 then 400 else if v = 7 then 443 else if v = 8 then 486 else if v = 9 then 499 else if v = 10 then 532 else if v = 11 then 565 else if v = 12 then 598 else if v = 13 then 631 else if v = 14 then 654 else if v = 15 then 677 else if v = 16 then 730 else if v = 17 then 753 else if v = 18 then 777 else if v = 19 then 790 else if v = 20 then 843 else if v = 21 then 856 else if v = 22 then 869 else if v = 23 then 882 else if v = 24 then 895 else if v = 25 then 918 else 941) (by
    intro v h1 h2
    have hv : v = 0 ∨ v = 1 ∨ v = 2 ∨ v = 3 ∨ v = 4 ∨ v = 5 ∨ v = 6 ∨ v = 7 ∨ v = 8 ∨ v = 9 ∨ v = 10 ∨ v = 11 ∨ v = 12 ∨ v = 13 ∨ v = 14 ∨ v = 15 ∨ v = 16 ∨ v = 17 ∨ v = 18 ∨ v = 19 ∨ v = 20 ∨ v = 21 ∨ v = 22 ∨ v = 23 ∨ v = 24 ∨ v = 25 := by omega
    rcases hv with rfl | rfl | rfl | rfl | rfl | rfl | rfl | rfl | rfl | rfl | rfl | rfl | rfl | rfl | rfl | rfl | rfl | rfl | rfl | rfl | rfl | rfl | rfl | rfl | rfl | rfl
    all_goals exact ⟨_, rfl, by decide⟩) 941 (by decide) (fun hl hh => ?_) (fun hd => ?_)
  · have hc : (xs (6 * t) &&& 31).toInt = 0 ∨ (xs (6 * t) &&& 31).toInt = 1 ∨ (xs (6 * t) &&& 31).toInt = 2 ∨ (xs (6 * t) &&& 31).toInt = 3 ∨ (xs (6 * t) &&& 31).toInt = 4 ∨ (xs (6 * t) &&& 31).toInt = 5 ∨ (xs (6 * t) &&& 31).toInt = 6 ∨ (xs (6 * t) &&& 31).toInt = 7 ∨ (xs (6 * t) &&& 31).toInt = 8 ∨ (xs (6 * t) &&& 31).toInt = 9 ∨ (xs (6 * t) &&& 31).toInt = 10 ∨ (xs (6 * t) &&& 31).toInt = 11 ∨ (xs (6 * t) &&& 31).toInt = 12 ∨ (xs (6 * t) &&& 31).toInt = 13 ∨ (xs (6 * t) &&& 31).toInt = 14 ∨ (xs (6 * t) &&& 31).toInt = 15 ∨ (xs (6 * t) &&& 31).toInt = 16 ∨ (xs (6 * t) &&& 31).toInt = 17 ∨ (xs (6 * t) &&& 31).toInt = 18 ∨ (xs (6 * t) &&& 31).toInt = 19 ∨ (xs (6 * t) &&& 31).toInt = 20 ∨ (xs (6 * t) &&& 31).toInt = 21 ∨ (xs (6 * t) &&& 31).toInt = 22 ∨ (xs (6 * t) &&& 31).toInt = 23 ∨ (xs (6 * t) &&& 31).toInt = 24 ∨ (xs (6 * t) &&& 31).toInt = 25 := by omega
    rcases hc with hc | hc | hc | hc | hc | hc | hc | hc | hc | hc | hc | hc | hc | hc | hc | hc | hc | hc | hc | hc | hc | hc | hc | hc | hc | hc
    · refine g_pc 152 (by rw [hc]; rfl) ?_
      exact law_0 l hG hAg hX hbl hbA hL hi6 (by omega) (by omega) f na w td vl Lp pt fl kd kp pq ps fp fs fv fg fw ft fn i1 wk sp iw od sv hI hb9
    · refine g_pc 185 (by rw [hc]; rfl) ?_
      exact law_1 l hG hAg hX hbl hbA hL hi6 (by omega) (by omega) f na w td vl Lp pt fl kd kp pq ps fp fs fv fg fw ft fn i1 wk sp iw od sv hI hb9
    · refine g_pc 218 (by rw [hc]; rfl) ?_
      exact law_2 l hG hAg hX hbl hbA hL hi6 (by omega) (by omega) f na w td vl Lp pt fl kd kp pq ps fp fs fv fg fw ft fn i1 wk sp iw od sv hI hb9
    · refine g_pc 271 (by rw [hc]; rfl) ?_
      exact law_3 l hG hAg hX hbl hbA hL hi6 (by omega) (by omega) f na w td vl Lp pt fl kd kp pq ps fp fs fv fg fw ft fn i1 wk sp iw od sv hI hb9
    · refine g_pc 314 (by rw [hc]; rfl) ?_
      exact law_4 l hG hAg hX hbl hbA hL hi6 (by omega) (by omega) f na w td vl Lp pt fl kd kp pq ps fp fs fv fg fw ft fn i1 wk sp iw od sv hI hb9
    · refine g_pc 377 (by rw [hc]; rfl) ?_
      exact law_5 l hG hAg hX hbl hbA hL hi6 (by omega) (by omega) f na w td vl Lp pt fl kd kp pq ps fp fs fv fg fw ft fn i1 wk sp iw od sv hI hb9
    · refine g_pc 400 (by rw [hc]; rfl) ?_
      exact law_6 l hG hAg hX hbl hbA hL hi6 (by omega) (by omega) f na w td vl Lp pt fl kd kp pq ps fp fs fv fg fw ft fn i1 wk sp iw od sv hI hb9
    · refine g_pc 443 (by rw [hc]; rfl) ?_
      exact law_7 l hG hAg hX hbl hbA hL hi6 (by omega) (by omega) f na w td vl Lp pt fl kd kp pq ps fp fs fv fg fw ft fn i1 wk sp iw od sv hI hb9
    · refine g_pc 486 (by rw [hc]; rfl) ?_
      exact law_8 l hG hAg hX hbl hbA hL hi6 (by omega) (by omega) f na w td vl Lp pt fl kd kp pq ps fp fs fv fg fw ft fn i1 wk sp iw od sv hI hb9
    · refine g_pc 499 (by rw [hc]; rfl) ?_
      exact law_9 l hG hAg hX hbl hbA hL hi6 (by omega) (by omega) f na w td vl Lp pt fl kd kp pq ps fp fs fv fg fw ft fn i1 wk sp iw od sv hI hb9
    · refine g_pc 532 (by rw [hc]; rfl) ?_
      exact law_10 l hG hAg hX hbl hbA hL hi6 (by omega) (by omega) f na w td vl Lp pt fl kd kp pq ps fp fs fv fg fw ft fn i1 wk sp iw od sv hI hb9
    · refine g_pc 565 (by rw [hc]; rfl) ?_
      exact law_11 l hG hAg hX hbl hbA hL hi6 (by omega) (by omega) f na w td vl Lp pt fl kd kp pq ps fp fs fv fg fw ft fn i1 wk sp iw od sv hI hb9
    · refine g_pc 598 (by rw [hc]; rfl) ?_
      exact law_12 l hG hAg hX hbl hbA hL hi6 (by omega) (by omega) f na w td vl Lp pt fl kd kp pq ps fp fs fv fg fw ft fn i1 wk sp iw od sv hI hb9
    · refine g_pc 631 (by rw [hc]; rfl) ?_
      exact law_13 l hG hAg hX hbl hbA hL hi6 (by omega) (by omega) f na w td vl Lp pt fl kd kp pq ps fp fs fv fg fw ft fn i1 wk sp iw od sv hI hb9
    · refine g_pc 654 (by rw [hc]; rfl) ?_
      exact law_14 l hG hAg hX hbl hbA hL hi6 (by omega) (by omega) f na w td vl Lp pt fl kd kp pq ps fp fs fv fg fw ft fn i1 wk sp iw od sv hI hb9
    · refine g_pc 677 (by rw [hc]; rfl) ?_
      exact law_15 l hG hAg hX hbl hbA hL hi6 (by omega) (by omega) f na w td vl Lp pt fl kd kp pq ps fp fs fv fg fw ft fn i1 wk sp iw od sv hI hb9
    · refine g_pc 730 (by rw [hc]; rfl) ?_
      exact law_16 l hG hAg hX hbl hbA hL hi6 (by omega) (by omega) f na w td vl Lp pt fl kd kp pq ps fp fs fv fg fw ft fn i1 wk sp iw od sv hI hb9
    · refine g_pc 753 (by rw [hc]; rfl) ?_
      exact law_17 l hG hAg hX hbl hbA hL hi6 (by omega) (by omega) f na w td vl Lp pt fl kd kp pq ps fp fs fv fg fw ft fn i1 wk sp iw od sv hI hb9
    · refine g_pc 777 (by rw [hc]; rfl) ?_
      exact law_18 l hG hAg hX hbl hbA hL hi6 (by omega) (by omega) f na w td vl Lp pt fl kd kp pq ps fp fs fv fg fw ft fn i1 wk sp iw od sv hI hb9
    · refine g_pc 790 (by rw [hc]; rfl) ?_
      exact law_19 l hG hAg hX hbl hbA hL hi6 (by omega) (by omega) f na w td vl Lp pt fl kd kp pq ps fp fs fv fg fw ft fn i1 wk sp iw od sv hI hb9
    · refine g_pc 843 (by rw [hc]; rfl) ?_
      exact law_20 l hG hAg hX hbl hbA hL hi6 (by omega) (by omega) f na w td vl Lp pt fl kd kp pq ps fp fs fv fg fw ft fn i1 wk sp iw od sv hI hb9
    · refine g_pc 856 (by rw [hc]; rfl) ?_
      exact law_21 l hG hAg hX hbl hbA hL hi6 (by omega) (by omega) f na w td vl Lp pt fl kd kp pq ps fp fs fv fg fw ft fn i1 wk sp iw od sv hI hb9
    · refine g_pc 869 (by rw [hc]; rfl) ?_
      cases hz : (fltR td Lp fn ft).1.2.1 with
      | true => exact law_22a l hG hAg hX hbl hbA hL hi6 (by omega) (by omega) f na w td vl Lp pt fl kd kp pq ps fp fs fv fg fw ft fn i1 wk sp iw od sv hI hz hb9
      | false => exact law_22b l hG hAg hX hbl hbA hL hi6 (by omega) (by omega) f na w td vl Lp pt fl kd kp pq ps fp fs fv fg fw ft fn i1 wk sp iw od sv hI hz hb9
    · refine g_pc 882 (by rw [hc]; rfl) ?_
      rcases Nat.eq_zero_or_pos kp with hz | hz
      · exact law_23a l hG hAg hX hbl hbA hL hi6 (by omega) (by omega) f na w td vl Lp pt fl kd kp pq ps fp fs fv fg fw ft fn i1 wk sp iw od sv hI hz hb9
      · exact law_23b l hG hAg hX hbl hbA hL hi6 (by omega) (by omega) f na w td vl Lp pt fl kd kp pq ps fp fs fv fg fw ft fn i1 wk sp iw od sv hI hz hb9
    · refine g_pc 895 (by rw [hc]; rfl) ?_
      cases hz : rng 2 (xs (6 * t + 1)) with
      | true => exact law_24a l hG hAg hX hbl hbA hL hi6 (by omega) (by omega) f na w td vl Lp pt fl kd kp pq ps fp fs fv fg fw ft fn i1 wk sp iw od sv hI hz hb9
      | false => exact law_24b l hG hAg hX hbl hbA hL hi6 (by omega) (by omega) f na w td vl Lp pt fl kd kp pq ps fp fs fv fg fw ft fn i1 wk sp iw od sv hI hz hb9
    · refine g_pc 918 (by rw [hc]; rfl) ?_
      cases hz : rng 2 (xs (6 * t + 1)) with
      | true =>
        cases hs : sv (xs (6 * t + 1)).toNatClampNeg with
        | true => exact law_25c l hG hAg hX hbl hbA hL hi6 (by omega) (by omega) f na w td vl Lp pt fl kd kp pq ps fp fs fv fg fw ft fn i1 wk sp iw od sv hI hz hs hb9
        | false => exact law_25b l hG hAg hX hbl hbA hL hi6 (by omega) (by omega) f na w td vl Lp pt fl kd kp pq ps fp fs fv fg fw ft fn i1 wk sp iw od sv hI hz hs hb9
      | false => exact law_25a l hG hAg hX hbl hbA hL hi6 (by omega) (by omega) f na w td vl Lp pt fl kd kp pq ps fp fs fv fg fw ft fn i1 wk sp iw od sv hI hz hb9
  · refine g_widen (cs + 18) (sl + 420) (by omega) (by omega) ?_
    exact hb9 _ _ _ _ _ _ _ _ _ _ _ _ _ _ _ _ _ _ _ _ _ _ _ _ _ _ hI
