theorem ic_lt {x y : Int32} (h : x < y) : x.toInt < y.toInt := Int32.lt_iff_toInt_lt.mp h
theorem ic_le {x y : Int32} (h : x ≤ y) : x.toInt ≤ y.toInt := Int32.le_iff_toInt_le.mp h
theorem ic_nlt {x y : Int32} (h : ¬ x < y) : y.toInt ≤ x.toInt := Int.not_lt.mp (fun z => h (Int32.lt_iff_toInt_lt.mpr z))
theorem ic_nle {x y : Int32} (h : ¬ x ≤ y) : y.toInt < x.toInt := Int.not_le.mp (fun z => h (Int32.le_iff_toInt_le.mpr z))
theorem ic_eq {x y : Int32} (h : x = y) : x.toInt = y.toInt := by rw [h]
theorem ic_ne {x y : Int32} (h : ¬ x = y) : x.toInt ≠ y.toInt := fun z => h (Int32.toInt_inj.mp z)
theorem nj_lt {a b : Nat} (ha : a < 2 ^ 31) (hb : b < 2 ^ 31) (h : nI a < nI b) : a < b := (nI_ltI ha hb).mp h
theorem nj_le {a b : Nat} (ha : a < 2 ^ 31) (hb : b < 2 ^ 31) (h : nI a ≤ nI b) : a ≤ b := (nI_leI ha hb).mp h
theorem nj_nlt {a b : Nat} (ha : a < 2 ^ 31) (hb : b < 2 ^ 31) (h : ¬ nI a < nI b) : b ≤ a := Nat.not_lt.mp (fun z => h ((nI_ltI ha hb).mpr z))
theorem nj_nle {a b : Nat} (ha : a < 2 ^ 31) (hb : b < 2 ^ 31) (h : ¬ nI a ≤ nI b) : b < a := Nat.not_le.mp (fun z => h ((nI_leI ha hb).mpr z))
theorem nj_eq {a b : Nat} (ha : a < 2 ^ 31) (hb : b < 2 ^ 31) (h : nI a = nI b) : a = b := (nI_eq ha hb).mp h
theorem nj_ne {a b : Nat} (ha : a < 2 ^ 31) (hb : b < 2 ^ 31) (h : ¬ nI a = nI b) : a ≠ b := fun z => h (by rw [z])
theorem ret_t {P : Prop} {d : Decidable P} (h : P) : some (Value.int 1) = some (.int (b2i (@decide P d))) := by rw [decide_eq_true h]; rfl
theorem ret_f {P : Prop} {d : Decidable P} (h : ¬ P) : some (Value.int 0) = some (.int (b2i (@decide P d))) := by rw [decide_eq_false h]; rfl
theorem ret_b {b c : Bool} (h : b = c) : some (Value.int (b2i b)) = some (.int (b2i c)) := by rw [h]
theorem ret_1 {b : Bool} (h : b = true) : some (Value.int 1) = some (.int (b2i b)) := by rw [h]; rfl
theorem ret_0 {b : Bool} (h : b = false) : some (Value.int 0) = some (.int (b2i b)) := by rw [h]; rfl
/-- 0 ≤ x < n -/
def rng (n : Nat) (x : Int32) : Bool := decide (0 ≤ x.toInt ∧ x.toInt < (n : Int))
theorem rng_in {n : Nat} {x : Int32} (h : rng n x = true) : 0 ≤ x.toInt ∧ x.toInt < (n : Int) := of_decide_eq_true h
theorem rng_out {n : Nat} {x : Int32} (h : rng n x = false) : ¬ (0 ≤ x.toInt ∧ x.toInt < (n : Int)) := of_decide_eq_false h
theorem rng_nI {n : Nat} {x : Int32} (h : rng n x = true) : ∃ k : Nat, k < n ∧ x = nI k := by
  obtain ⟨h1, h2⟩ := rng_in h
  refine ⟨x.toInt.toNat, by omega, ?_⟩
  apply Int32.toInt_inj.mp
  have h3 : x.toInt < 2 ^ 31 := Int32.toInt_lt x
  rw [nI_toInt (by omega)]
  omega
theorem rng_of {n k : Nat} (h : k < n) (h2 : n ≤ 2 ^ 31) : rng n (nI k) = true := by
  unfold rng
  rw [nI_toInt (by omega)]
  exact decide_eq_true ⟨by omega, by omega⟩
theorem rng_no {n k : Nat} (h : n ≤ k) (h2 : k < 2 ^ 31) : rng n (nI k) = false := by
  unfold rng
  rw [nI_toInt h2]
  exact decide_eq_false (by omega)
theorem wa_map (ws : va_W) : (List.range ws.length).map (fun i => ws[i]?) = ws.map some := by
  apply List.ext_getElem?
  intro k
  by_cases h : k < ws.length
  · simp [h]
  · simp [h]
theorem wa_nd : ∀ l : List Nat, l.Nodup → va_nd l = true
  | [], _ => rfl
  | a :: l, h => by
    have h' := List.nodup_cons.mp h
    simp [va_nd, h'.1, wa_nd l h'.2]
theorem wput_len : ∀ (is : List Nat) (w ws : va_W), (wput ws is w).length = ws.length
  | [], w, ws => by rw [wput]
  | i :: is, [], ws => by rw [wput]
  | i :: is, x :: w, ws => by
    rw [wput, wput_len is w]
    simp
theorem wput_all {ws w : va_W} (h : w.map Prod.fst = ws.map Prod.fst) : wput ws (List.range ws.length) w = w := by
  have hl : w.length = ws.length := by have := congrArg List.length h; simpa using this
  apply List.ext_getElem?
  intro k
  by_cases hk : k < ws.length
  · have h1 : k < (wput ws (List.range ws.length) w).length := by rw [wput_len]; exact hk
    have h2 : (wput ws (List.range ws.length) w)[k]? = some ((wput ws (List.range ws.length) w)[k]) := List.getElem?_eq_getElem h1
    rcases wput_get (List.range ws.length) w ws (by simp [hl]) k _ h2 with ⟨j, h3, h4⟩ | ⟨h3, -⟩
    · have h5 : j = k := by
        have := List.getElem?_eq_some_iff.mp h3
        obtain ⟨h6, h7⟩ := this
        simpa using h7
      rw [h2, ← h4, h5]
    · exact absurd (List.mem_range.mpr hk) h3
  · rw [List.getElem?_eq_none (by rw [wput_len]; omega), List.getElem?_eq_none (by omega)]
section GEXTRA
variable {p : Program} {l : Launch} {e : Env} {R : Room} {s : State} {m : MethodId} {args : Array Value} {below : List Frame} {meth : Method} {c : Code} {D : DT} {A : Nat → Prop} {nL : Nat} {ro : Bool} {cs sl : Nat} {Q : State → Prop} {cc : ByteArray} {own : String} {Ts : List Cond} {ws : va_W} {lv : List (Nat × Value)} {st : List Value} {pc pc' : Nat}
theorem g_st {st' : List Value} (h : st = st') (kk : GG p l e R s m args below meth c D A nL ro cs sl Q ws pc lv st') : GG p l e R s m args below meth c D A nL ro cs sl Q ws pc lv st := h ▸ kk
theorem g_ws {ws' : va_W} (h : ws = ws') (kk : GG p l e R s m args below meth c D A nL ro cs sl Q ws' pc lv st) : GG p l e R s m args below meth c D A nL ro cs sl Q ws pc lv st := h ▸ kk
theorem g_topi {x y : Int32} (h : x = y) (kk : GG p l e R s m args below meth c D A nL ro cs sl Q ws pc lv (.int y :: st)) : GG p l e R s m args below meth c D A nL ro cs sl Q ws pc lv (.int x :: st) := h ▸ kk
theorem g_topl {x y : Int64} (h : x = y) (kk : GG p l e R s m args below meth c D A nL ro cs sl Q ws pc lv (.long y :: st)) : GG p l e R s m args below meth c D A nL ro cs sl Q ws pc lv (.long x :: st) := h ▸ kk
theorem g_top2 {v : Value} {x y : Int32} (h : x = y) (kk : GG p l e R s m args below meth c D A nL ro cs sl Q ws pc lv (v :: .int y :: st)) : GG p l e R s m args below meth c D A nL ro cs sl Q ws pc lv (v :: .int x :: st) := h ▸ kk
theorem g_callVRs (X : GX p l e R s m args below meth c D A nL cc own Ts) {y : MethodName} {wsy wsy' : List Cond} {bytes : ByteArray} {maxL fr lo n index : Nat} {As rest : List Value} {ret : Option FieldType} {b : Nat} {C : String} {T : u_T} {N ci : Nat} {fs : List Value} {post : Option Value → Prop} (hM : MR l y wsy fr lo D (.ref b :: As) ws post) (hG : GoodIn Ts (wsV own index C y wsy)) (hw : wsy = Cond.code y bytes maxL ret :: wsy') (hdsc : y.cls = C ∧ y.cls ≠ "java/lang/invoke/MethodHandle" ∧ y.cls ≠ "java/lang/invoke/VarHandle" ∧ (parseMethodDescriptor y.desc).map (fun d => d.parameters.length) = some n) (hR : fr + 1 ≤ R.frames ∧ 8 + (maxL + 11) + lo ≤ R.locals) (hrec : ws[0]? = some (b, .inr (ci, fs))) (hcl : vwCl[ci]? = some (C, T, N)) (hn : As.length = n) (hst : st = As.reverse ++ .ref b :: rest) (hcat : (rest.map fun v => v.category).sum ≤ 8) (hd : decode cc pc = .ok (.invokevirtual index, 3)) (hroom : cs ≤ R.cells ∧ sl ≤ R.slots) (hp : pc + 3 = pc') (kk : ∀ v : Option Value, post v → GG p l e R s m args below meth c D A nL ro cs sl Q ws pc' lv (v.toList ++ rest)) : GG p l e R s m args below meth c D A nL ro cs sl Q ws pc lv st :=
  g_callVR X hM hG hw hdsc hR hrec hcl (List.range ws.length) (wa_map ws) (wa_nd _ List.nodup_range) hn hst hcat hd hroom hp kk
theorem g_callVWs (X : GX p l e R s m args below meth c D A nL cc own Ts) {y : MethodName} {wsy wsy' : List Cond} {bytes : ByteArray} {maxL fr lo n index : Nat} {As rest : List Value} {ret : Option FieldType} {b : Nat} {C : String} {T : u_T} {N ci : Nat} {fs : List Value} {mc ms : Nat} {post : Option Value → va_W → Prop} (hA : ∀ q, s.heap.size ≤ q → A q) (hro0 : ro = false) (hM : MW l y wsy fr lo mc ms D (.ref b :: As) ws post) (hG : GoodIn Ts (wsV own index C y wsy)) (hw : wsy = Cond.code y bytes maxL ret :: wsy') (hdsc : y.cls = C ∧ y.cls ≠ "java/lang/invoke/MethodHandle" ∧ y.cls ≠ "java/lang/invoke/VarHandle" ∧ (parseMethodDescriptor y.desc).map (fun d => d.parameters.length) = some n) (hR : fr + 1 ≤ R.frames ∧ 8 + (maxL + 11) + lo ≤ R.locals) (hrec : ws[0]? = some (b, .inr (ci, fs))) (hcl : vwCl[ci]? = some (C, T, N)) (hn : As.length = n) (hst : st = As.reverse ++ .ref b :: rest) (hcat : (rest.map fun v => v.category).sum ≤ 8) (hd : decode cc pc = .ok (.invokevirtual index, 3)) (hroom : cs + mc ≤ R.cells ∧ sl + ms ≤ R.slots) (hp : pc + 3 = pc') (kk : ∀ (v : Option Value) (w : va_W), post v w → w.map Prod.fst = ws.map Prod.fst ∧ GG p l e R s m args below meth c D A nL ro (cs + mc) (sl + ms) Q w pc' lv (v.toList ++ rest)) : GG p l e R s m args below meth c D A nL ro cs sl Q ws pc lv st :=
  g_callVW X hA hro0 hM hG hw hdsc hR hrec hcl (List.range ws.length) (wa_map ws) (wa_nd _ List.nodup_range) hn hst hcat hd hroom hp (fun v w h => ⟨(kk v w h).1, by rw [wput_all (kk v w h).1]; exact (kk v w h).2⟩)
theorem g_callSRs (X : GX p l e R s m args below meth c D A nL cc own Ts) {y : MethodName} {wsy wsy' : List Cond} {bytes : ByteArray} {maxL fr lo n index : Nat} {As rest : List Value} {ret : Option FieldType} {post : Option Value → Prop} (hM : MR l y wsy fr lo D As ws post) (hG : GoodIn Ts (va_wsS own index y wsy)) (hw : wsy = Cond.code y bytes maxL ret :: wsy') (hdsc : y.cls ≠ "java/lang/invoke/MethodHandle" ∧ y.cls ≠ "java/lang/invoke/VarHandle" ∧ (parseMethodDescriptor y.desc).map (fun d => d.parameters.length) = some n) (hR : fr + 1 ≤ R.frames ∧ 8 + (maxL + 11) + lo ≤ R.locals) (hn : As.length = n) (hst : st = As.reverse ++ rest) (hcat : (rest.map fun v => v.category).sum ≤ 8) (hd : decode cc pc = .ok (.invokestatic index, 3)) (hroom : cs ≤ R.cells ∧ sl ≤ R.slots) (hp : pc + 3 = pc') (kk : ∀ v : Option Value, post v → GG p l e R s m args below meth c D A nL ro cs sl Q ws pc' lv (v.toList ++ rest)) : GG p l e R s m args below meth c D A nL ro cs sl Q ws pc lv st :=
  g_callSR X hM hG hw hdsc hR (List.range ws.length) (wa_map ws) (wa_nd _ List.nodup_range) hn hst hcat hd hroom hp kk
theorem g_callSWs (X : GX p l e R s m args below meth c D A nL cc own Ts) {y : MethodName} {wsy wsy' : List Cond} {bytes : ByteArray} {maxL fr lo n index : Nat} {As rest : List Value} {ret : Option FieldType} {mc ms : Nat} {post : Option Value → va_W → Prop} (hA : ∀ q, s.heap.size ≤ q → A q) (hro0 : ro = false) (hM : MW l y wsy fr lo mc ms D As ws post) (hG : GoodIn Ts (va_wsS own index y wsy)) (hw : wsy = Cond.code y bytes maxL ret :: wsy') (hdsc : y.cls ≠ "java/lang/invoke/MethodHandle" ∧ y.cls ≠ "java/lang/invoke/VarHandle" ∧ (parseMethodDescriptor y.desc).map (fun d => d.parameters.length) = some n) (hR : fr + 1 ≤ R.frames ∧ 8 + (maxL + 11) + lo ≤ R.locals) (hn : As.length = n) (hst : st = As.reverse ++ rest) (hcat : (rest.map fun v => v.category).sum ≤ 8) (hd : decode cc pc = .ok (.invokestatic index, 3)) (hroom : cs + mc ≤ R.cells ∧ sl + ms ≤ R.slots) (hp : pc + 3 = pc') (kk : ∀ (v : Option Value) (w : va_W), post v w → w.map Prod.fst = ws.map Prod.fst ∧ GG p l e R s m args below meth c D A nL ro (cs + mc) (sl + ms) Q w pc' lv (v.toList ++ rest)) : GG p l e R s m args below meth c D A nL ro cs sl Q ws pc lv st :=
  g_callSW X hA hro0 hM hG hw hdsc hR (List.range ws.length) (wa_map ws) (wa_nd _ List.nodup_range) hn hst hcat hd hroom hp (fun v w h => ⟨(kk v w h).1, by rw [wput_all (kk v w h).1]; exact (kk v w h).2⟩)
theorem g_callSNRs (X : GX p l e R s m args below meth c D A nL cc own Ts) {y : MethodName} {wsy wsy' : List Cond} {bytes : ByteArray} {maxL fr lo n index : Nat} {As rest : List Value} {ret : Option FieldType} {post : Option Value → Prop} (hM : MR l y wsy fr lo D As ws post) (hG : GoodIn Ts wsy) (hini : Cond.initialized y.cls ∈ Ts) (hnest : Cond.methodLinkNest own index y "VisaPages" ∈ nwL) (hstt : Cond.static y ∈ Ts) (hw : wsy = Cond.code y bytes maxL ret :: wsy') (hdsc : y.cls ≠ "java/lang/invoke/MethodHandle" ∧ y.cls ≠ "java/lang/invoke/VarHandle" ∧ (parseMethodDescriptor y.desc).map (fun d => d.parameters.length) = some n) (hR : fr + 1 ≤ R.frames ∧ 8 + (maxL + 11) + lo ≤ R.locals) (hn : As.length = n) (hst : st = As.reverse ++ rest) (hcat : (rest.map fun v => v.category).sum ≤ 8) (hd : decode cc pc = .ok (.invokestatic index, 3)) (hroom : cs ≤ R.cells ∧ sl ≤ R.slots) (hp : pc + 3 = pc') (kk : ∀ v : Option Value, post v → GG p l e R s m args below meth c D A nL ro cs sl Q ws pc' lv (v.toList ++ rest)) : GG p l e R s m args below meth c D A nL ro cs sl Q ws pc lv st :=
  g_callSNR X hM hG hini hnest hstt hw hdsc hR (List.range ws.length) (wa_map ws) (wa_nd _ List.nodup_range) hn hst hcat hd hroom hp kk
theorem g_callSNWs (X : GX p l e R s m args below meth c D A nL cc own Ts) {y : MethodName} {wsy wsy' : List Cond} {bytes : ByteArray} {maxL fr lo n index : Nat} {As rest : List Value} {ret : Option FieldType} {mc ms : Nat} {post : Option Value → va_W → Prop} (hA : ∀ q, s.heap.size ≤ q → A q) (hro0 : ro = false) (hM : MW l y wsy fr lo mc ms D As ws post) (hG : GoodIn Ts wsy) (hini : Cond.initialized y.cls ∈ Ts) (hnest : Cond.methodLinkNest own index y "VisaPages" ∈ nwL) (hstt : Cond.static y ∈ Ts) (hw : wsy = Cond.code y bytes maxL ret :: wsy') (hdsc : y.cls ≠ "java/lang/invoke/MethodHandle" ∧ y.cls ≠ "java/lang/invoke/VarHandle" ∧ (parseMethodDescriptor y.desc).map (fun d => d.parameters.length) = some n) (hR : fr + 1 ≤ R.frames ∧ 8 + (maxL + 11) + lo ≤ R.locals) (hn : As.length = n) (hst : st = As.reverse ++ rest) (hcat : (rest.map fun v => v.category).sum ≤ 8) (hd : decode cc pc = .ok (.invokestatic index, 3)) (hroom : cs + mc ≤ R.cells ∧ sl + ms ≤ R.slots) (hp : pc + 3 = pc') (kk : ∀ (v : Option Value) (w : va_W), post v w → w.map Prod.fst = ws.map Prod.fst ∧ GG p l e R s m args below meth c D A nL ro (cs + mc) (sl + ms) Q w pc' lv (v.toList ++ rest)) : GG p l e R s m args below meth c D A nL ro cs sl Q ws pc lv st :=
  g_callSNW X hA hro0 hM hG hini hnest hstt hw hdsc hR (List.range ws.length) (wa_map ws) (wa_nd _ List.nodup_range) hn hst hcat hd hroom hp (fun v w h => ⟨(kk v w h).1, by rw [wput_all (kk v w h).1]; exact (kk v w h).2⟩)
end GEXTRA
