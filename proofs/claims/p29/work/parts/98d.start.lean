theorem start_perm {x : Nat × va_E} {H PP R : va_W} : (([x] ++ (H ++ (PP ++ R)))).Perm (H ++ (PP ++ (x :: R))) := by
  show (x :: (H ++ (PP ++ R))).Perm (H ++ (PP ++ (x :: R)))
  rw [← List.append_assoc, ← List.append_assoc]
  exact List.perm_middle.symm
theorem law_end {p : Program} {l : Launch} {e : Env} {s : State} {m : MethodId} {below : List Frame} {meth : Method} {c : Code} {b : Nat} {D : DT} (hr : meth.sig.returnType = ret) (hG : GX p l e room_1 s m #[Value.ref b] below meth c D (fun q : Nat => s.heap.size ≤ q) 5 code RL wsL_law) (ws : va_W) (cs sl : Nat) (lv : List (Nat × Value)) (hcs : cs ≤ 600000) (hsl : sl ≤ 7302250) :
    GG p l e room_1 s m #[Value.ref b] below meth c D (fun q : Nat => s.heap.size ≤ q) 5 false cs sl (lw_Z below #[Value.ref b] s) ws 236 lv [] := by
  refine g_iconst (v := (1 : Int32)) hG dL_law_236 (by decide) rfl ?_
  refine g_goto hG dL_law_237 241 (by decide) ?_
  intro H locs ls hro hP hD hS hl
  exact va_forget (fun q hq => hS.2.2 q hq) (W.widen hcs hsl (lw_ret hG.1 hG.2.1 hr hG.2.2.2.2.2.1 dL_law_241))
set_option maxHeartbeats 8000000 in
set_option maxRecDepth 100000 in
/-- THE LAW, from its entry -/
theorem whole_start {p : Program} {e : Env} {s : State} {m : MethodId} {below : List Frame} {meth : Method} {c : Code} (l : Launch) (hflags : l.flags = flags0) {b L : Nat} {xs : Nat → Int32} (hL : L ≤ 260) (C0 : lw_At p s m meth c b L xs) : W p l e room_1 s m #[Value.ref b] below meth c s.heap [] 0 0 (lw_Z below #[Value.ref b] s) (entryFrame m ([Value.ref b] : List Value).toArray 5) := by
  obtain ⟨hx, hb, hr, hml, hown, hts, hX, hbl, hlocks, hgv⟩ := id C0
  have hA0 : ∀ a : Nat, a < s.heap.size → ¬ (fun q : Nat => s.heap.size ≤ q) a := fun a h => Nat.not_le.mpr h
  obtain ⟨D, hE⟩ := law_EX hts hgv hA0
  have hG : GX p l e room_1 s m #[Value.ref b] below meth c D (fun q : Nat => s.heap.size ≤ q) 5 code RL wsL_law := ⟨hx, hb, hml, hown, fun w h => hts w (wsL_law_in w h), hlocks, hE⟩
  have hAg : ∀ q : Nat, s.heap.size ≤ q → (fun q : Nat => s.heap.size ≤ q) q := fun _ h => h
  have hbA : ¬ (fun q : Nat => s.heap.size ≤ q) b := Nat.not_le.mpr hbl
  have K : GG p l e room_1 s m #[Value.ref b] below meth c D (fun q : Nat => s.heap.size ≤ q) 5 false 0 0 (lw_Z below #[Value.ref b] s) [] 0 [(0, .ref b)] [] := by
    refine g_new (ci := 6) (fs := [.null, .null, .null, .null, .null]) hG tyX6 hAg rfl dL_law_0 inlX6 tyX6_ok (List.mem_of_getElem? (l := wsL_law) (i := 0) rfl) (List.mem_of_getElem? (l := wsL_law) (i := 1) rfl) (List.mem_of_getElem? (l := wsL_law) (i := 2) rfl) rfl (by decide) ⟨Nat.le_of_ble_eq_true rfl, Nat.le_of_ble_eq_true rfl⟩ rfl (fun qx => ?_)
    refine g_dup hG dL_law_3 rfl rfl ?_
    refine g_callIA (n := 0) (As := []) (rest := [_]) hG hAg rfl (c_X6_init l D qx) gL_law_X6_init (List.mem_of_getElem? (l := wsL_law) (i := 2) rfl) (List.mem_of_getElem? (l := wsL_law) (i := 3) rfl) (List.mem_of_getElem? (l := wsL_law) (i := 4) rfl) rfl rfl (by decide +kernel) ⟨Nat.le_of_ble_eq_true rfl, Nat.le_of_ble_eq_true rfl⟩ [0] rfl (by decide) rfl rfl (Nat.le_of_ble_eq_true rfl) dL_law_4 ⟨Nat.le_of_ble_eq_true rfl, Nat.le_of_ble_eq_true rfl⟩ rfl (fun v w9 hv => ?_)
    obtain ⟨rfl, a, rfl, rfl⟩ := hv
    refine ⟨[_], _, rfl, rfl, ?_⟩
    refine g_st (st' := [_]) rfl ?_
    refine g_ws (ws' := [(a 19, .inr (6, [.ref (a 0), .ref (a 18), .ref (a 20), .ref (a 23), .ref (a 25)]))] ++ (wHW D a f0S na0S (fun _ => 0) ++ (wP D a (fun _ => 0) (fun _ => 0) 0 0 0 0 ++ [(a 23, .inr (1, [.ref (a 24), .int (nI 0)])), (a 24, .inl (D.2.2.2.2.1, 7, .inr (.inr (.inr (.inr (fun _ => none)))))), (a 25, .inl (D.2.2.2.2.1, 2, .inr (.inr (.inr (.inr (fun _ => none))))))]))) rfl ?_
    refine g_astore_n hG [(1, .ref (a 19)), (0, .ref b)] dL_law_7 rfl (by decide) rfl rfl ?_
    refine g_iconst (v := (0 : Int32)) hG dL_law_8 (by decide) rfl ?_
    refine g_istore_n hG [(2, .int 0), (1, .ref (a 19)), (0, .ref b)] dL_law_9 rfl (by decide) rfl rfl ?_
    refine g_perm (ws' := (wHW D a f0S na0S (fun _ => 0) ++ (wP D a (fun _ => 0) (fun _ => 0) 0 0 0 0 ++ ((a 19, .inr (6, [.ref (a 0), .ref (a 18), .ref (a 20), .ref (a 23), .ref (a 25)])) :: [(a 23, .inr (1, [.ref (a 24), .int (nI 0)])), (a 24, .inl (D.2.2.2.2.1, 7, .inr (.inr (.inr (.inr (fun _ => none)))))), (a 25, .inl (D.2.2.2.2.1, 2, .inr (.inr (.inr (.inr (fun _ => none))))))])))) start_perm ?_
    refine g_ws (ws' := wB D a f0S na0S (fun _ => 0) (fun _ => 0) (fun _ => 0) 0 0 0 0 0 (fqa (fun _ => none)) (fqa (fun _ => none)) (tlW D (fun _ => none) (fun _ => none))) (List.append_nil _).symm ?_
    refine g_widen 30 460 (by decide) (by decide) ?_
    exact law_set l D a hAg hG hX hbl hbA hL (law_end hr hG)
  have hl := lv_entry ([.ref b]) (n := 5) (Nat.le_of_ble_eq_true rfl)
  rw [lg_entry_eq]
  generalize (lg_sl ([.ref b]) ++ List.replicate (5 - (lg_sl ([.ref b])).length) Slot.unset).toArray = ls at hl ⊢
  have hl : lv_has ls 5 [(0, .ref b)] := hl
  exact K s.heap [] ls (fun h => by cases h) (fun k q h => by simp at h) ⟨fun i j p q h => by simp at h, fun k q h => by simp at h⟩ va_S.rf hl
