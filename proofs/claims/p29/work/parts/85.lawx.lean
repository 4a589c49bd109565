theorem wa_map_pre (wc wr : va_W) : (List.range' 0 wc.length).map (fun i => (wc ++ wr)[i]?) = wc.map some := by
  apply List.ext_getElem?
  intro k
  by_cases h : k < wc.length
  · rw [List.getElem?_map, List.getElem?_map, List.getElem?_range' h, List.getElem?_eq_getElem h]
    show some ((wc ++ wr)[0 + 1 * k]?) = some (some wc[k])
    rw [Nat.one_mul, Nat.zero_add, List.getElem?_append_left h, List.getElem?_eq_getElem h]
  · rw [List.getElem?_eq_none (by rw [List.length_map, List.length_range']; omega), List.getElem?_eq_none (by rw [List.length_map]; omega)]
section GLAWX
variable {p : Program} {l : Launch} {e : Env} {R : Room} {s : State} {m : MethodId} {args : Array Value} {below : List Frame} {meth : Method} {c : Code} {D : DT} {A : Nat → Prop} {nL : Nat} {ro : Bool} {cs sl : Nat} {Q : State → Prop} {cc : ByteArray} {own : String} {Ts : List Cond} {ws : va_W} {lv : List (Nat × Value)} {st : List Value} {pc pc' : Nat}
theorem g_ldcI (X : GX p l e R s m args below meth c D A nL cc own Ts) {index : Nat} {v : Int32} (hd : decode cc pc = .ok (.ldc index, 2)) (hw : Cond.constant own index v ∈ Ts) (hp : pc + 2 = pc') (kk : GG p l e R s m args below meth c D A nL ro cs sl Q ws pc' lv (.int v :: st)) : GG p l e R s m args below meth c D A nL ro cs sl Q ws pc lv st := by
  subst hp
  obtain ⟨hx, hb, hml, hown, hts, hlk, hE⟩ := X
  intro H locs ls hro hP hD hS hl
  exact lv_ldc hx hb hown (hts _ hw) hd (kk H locs ls hro hP hD hS hl)
theorem g_idiv (X : GX p l e R s m args below meth c D A nL cc own Ts) {x y : Int32} (hd : decode cc pc = .ok (.idiv, 1)) (hne : ¬ y = 0) (hp : pc + 1 = pc') (kk : GG p l e R s m args below meth c D A nL ro cs sl Q ws pc' lv (.int (x / y) :: st)) : GG p l e R s m args below meth c D A nL ro cs sl Q ws pc lv (.int y :: .int x :: st) := by
  subst hp
  obtain ⟨hx, hb, hml, hown, hts, hlk, hE⟩ := X
  intro H locs ls hro hP hD hS hl
  exact lv_idiv hx hb hd hne (kk H locs ls hro hP hD hS hl)
theorem g_lmul (X : GX p l e R s m args below meth c D A nL cc own Ts) {x y : Int64} (hd : decode cc pc = .ok (.lmul, 1)) (hp : pc + 1 = pc') (kk : GG p l e R s m args below meth c D A nL ro cs sl Q ws pc' lv (.long (x * y) :: st)) : GG p l e R s m args below meth c D A nL ro cs sl Q ws pc lv (.long y :: .long x :: st) := by
  subst hp
  obtain ⟨hx, hb, hml, hown, hts, hlk, hE⟩ := X
  intro H locs ls hro hP hD hS hl
  exact lv_lmul hx hb hd (kk H locs ls hro hP hD hS hl)
theorem g_callSRX (X : GX p l e R s m args below meth c D A nL cc own Ts) {y : MethodName} {wsy wsy' : List Cond} {bytes : ByteArray} {maxL fr lo n index : Nat} {w0 wc : va_W} {As rest : List Value} {ret : Option FieldType} {post : Option Value → Prop} (hM : MR l y wsy fr lo D As wc post) (hG : GoodIn Ts (va_wsS own index y wsy)) (hw : wsy = Cond.code y bytes maxL ret :: wsy') (hdsc : y.cls ≠ "java/lang/invoke/MethodHandle" ∧ y.cls ≠ "java/lang/invoke/VarHandle" ∧ (parseMethodDescriptor y.desc).map (fun d => d.parameters.length) = some n) (hR : fr + 1 ≤ R.frames ∧ 8 + (maxL + 11) + lo ≤ R.locals) (hws : ws = w0 ++ wc) (hn : As.length = n) (hst : st = As.reverse ++ rest) (hcat : (rest.map fun v => v.category).sum ≤ 8) (hd : decode cc pc = .ok (.invokestatic index, 3)) (hroom : cs ≤ R.cells ∧ sl ≤ R.slots) (hp : pc + 3 = pc') (kk : ∀ v : Option Value, post v → GG p l e R s m args below meth c D A nL ro cs sl Q ws pc' lv (v.toList ++ rest)) : GG p l e R s m args below meth c D A nL ro cs sl Q ws pc lv st := by
  subst hws
  exact g_callSR X hM hG hw hdsc hR (List.range' w0.length wc.length) (wa_map_at w0 wc) (wa_nd _ List.nodup_range') hn hst hcat hd hroom hp kk
theorem g_callSPq (X : GX p l e R s m args below meth c D A nL cc own Ts) {y : MethodName} {wsy wsy' : List Cond} {bytes : ByteArray} {maxL fr lo n index : Nat} {wc : va_W} {As rest : List Value} {ret : Option FieldType} {mc ms : Nat} {post : Option Value → va_W → Prop} (hA : ∀ q, s.heap.size ≤ q → A q) (hro0 : ro = false) (hM : MW l y wsy fr lo mc ms D As wc post) (hG : GoodIn Ts (va_wsS own index y wsy)) (hw : wsy = Cond.code y bytes maxL ret :: wsy') (hdsc : y.cls ≠ "java/lang/invoke/MethodHandle" ∧ y.cls ≠ "java/lang/invoke/VarHandle" ∧ (parseMethodDescriptor y.desc).map (fun d => d.parameters.length) = some n) (hR : fr + 1 ≤ R.frames ∧ 8 + (maxL + 11) + lo ≤ R.locals) (isC : List Nat) (hC : isC.map (fun i => ws[i]?) = wc.map some) (hnd : va_nd isC = true) (hn : As.length = n) (hst : st = As.reverse ++ rest) (hcat : (rest.map fun v => v.category).sum ≤ 8) (hd : decode cc pc = .ok (.invokestatic index, 3)) (hroom : cs + mc ≤ R.cells ∧ sl + ms ≤ R.slots) (hp : pc + 3 = pc') (kk : ∀ (v : Option Value) (w : va_W), post v w → ∃ w1 w2 : va_W, w.Perm (w1 ++ w2) ∧ w1.map Prod.fst = wc.map Prod.fst ∧ GG p l e R s m args below meth c D A nL ro (cs + mc) (sl + ms) Q (wput ws isC w1 ++ w2) pc' lv (v.toList ++ rest)) : GG p l e R s m args below meth c D A nL ro cs sl Q ws pc lv st := by
  subst hp; subst hst
  obtain ⟨hx, hb, hml, hown, hts, hlk, hE⟩ := X
  intro H locs ls hro hP hD hS hl
  have hPc : va_P D.1 vwCl wc H := by
    intro k q hk
    have h3 : (isC.map (fun i => ws[i]?))[k]? = some (some q) := by rw [hC, List.getElem?_map, hk]; rfl
    rw [List.getElem?_map] at h3
    cases hi : isC[k]? with
    | none => rw [hi] at h3; cases h3
    | some i => rw [hi] at h3; exact hP i q (Option.some.inj h3)
  have hDc : va_D (va_A wc H.size) wc := (hD.sub isC hnd hC).self
  have hFc := va_free (wc := wc) hD hS hA isC hC
  have hr : va_Run p l e R s m args below meth c H locs cs sl mc ms (F0 m pc ls (As.reverse ++ rest)) rest ((wrQ D wc H.size post) (As).toArray) (va_A wc H.size) := va_runS ⟨hx, hb, hml, hown, hts⟩ (hM H.size) (va_cwS n hts hG hw rfl rfl hdsc hR) ⟨wrP_blind, fun U hU hW => ⟨rfl, by rw [hU], by rw [hU]; exact hPc, hDc, hE.call hS (fun q h => hFc q h) hU hW⟩⟩ rfl hn hl.1 rfl (lv_room hcat) hd hroom
  intro T hT X
  obtain ⟨v, st₀, t, T', L, e0, X', hL, e1, e2, ⟨⟨v', w, hv, hp, hPw, hDw⟩, hz, hk⟩, stp⟩ := hr T hT X
  cases hv
  rw [e0] at hz hk
  have hS1 : va_S A s.heap t.heap (locs ++ L) := ⟨Nat.le_trans hS.1 hz, fun q h1 h2 => by rw [hk q (Nat.lt_of_lt_of_le h1 hS.1) (fun z => h2 (hFc q z))]; exact hS.2.1 q h1 h2, fun q hq => by
      rcases List.mem_append.mp hq with h | h
      · exact hS.2.2 q h
      · exact hFc _ (hL q h)⟩
  obtain ⟨w1, w2, hw12, hw0, kk⟩ := kk v w hp
  have hPw := va_P_perm hw12 hPw
  have hDw := va_D_perm hw12 hDw
  have hP1 : va_P D.1 vwCl w1 t.heap := fun k q h => hPw k q (by rw [List.getElem?_append_left (List.getElem?_eq_some_iff.mp h).1]; exact h)
  have hP2 : va_P D.1 vwCl w2 t.heap := fun k q h => hPw (w1.length + k) q (by rw [List.getElem?_append_right (by omega)]; simpa using h)
  have hD2 : va_D (va_A wc H.size) w2 := ⟨fun i j x y hi hj hxy => by
    have := hDw.1 (w1.length + i) (w1.length + j) x y (by rw [List.getElem?_append_right (by omega)]; simpa using hi) (by rw [List.getElem?_append_right (by omega)]; simpa using hj) hxy
    omega, fun k q h => hDw.2 (w1.length + k) q (by rw [List.getElem?_append_right (by omega)]; simpa using h)⟩
  have hDp := wput_D hC hw0 hD
  have hap : ∀ (i j : Nat) (x y : Nat × va_E), (wput ws isC w1)[i]? = some x → w2[j]? = some y → x.1 ≠ y.1 := by
    intro i j x y hi hj hxy
    have hj' : (w1 ++ w2)[w1.length + j]? = some y := by rw [List.getElem?_append_right (by omega)]; simpa using hj
    obtain ⟨ex, hex⟩ := (wput_old (A := A) hC hw0).2 i x hi
    rcases hDw.2 _ y hj' with ⟨k, e5, h5⟩ | h5
    · -- y's address is an old one of wc: then it is in w1
      have h6 : (w1.map Prod.fst)[k]? = some y.1 := by rw [hw0, List.getElem?_map, h5]; rfl
      rw [List.getElem?_map] at h6
      cases h7 : w1[k]? with
      | none => rw [h7] at h6; cases h6
      | some z =>
        rw [h7] at h6
        have h8 : (w1 ++ w2)[k]? = some z := by rw [List.getElem?_append_left (List.getElem?_eq_some_iff.mp h7).1]; exact h7
        have h9 := hDw.1 k (w1.length + j) z y h8 hj' (Option.some.inj h6)
        have h10 := (List.getElem?_eq_some_iff.mp h7).1
        omega
    · have h6 := (hP i _ hex).lt
      simp only [hxy] at h6
      omega
  obtain ⟨t2, a1, b1⟩ := kk t.heap (locs ++ L) ls (fun h => by cases hro0.symm.trans h) (va_P.app (wput_join hP hD isC hC hw0 hk hP1) hP2) (va_D.app hDp (hD2.weaken (fun k q _ h => hFc q.1 h)) hap) hS1 hl T' e1 X'
  exact ⟨t2, stp t2 a1, b1⟩
theorem g_callSX (X : GX p l e R s m args below meth c D A nL cc own Ts) {y : MethodName} {wsy wsy' : List Cond} {bytes : ByteArray} {maxL fr lo n index : Nat} {w0 wc : va_W} {As rest : List Value} {ret : Option FieldType} {mc ms : Nat} {post : Option Value → va_W → Prop} (hA : ∀ q, s.heap.size ≤ q → A q) (hro0 : ro = false) (hM : MW l y wsy fr lo mc ms D As wc post) (hG : GoodIn Ts (va_wsS own index y wsy)) (hw : wsy = Cond.code y bytes maxL ret :: wsy') (hdsc : y.cls ≠ "java/lang/invoke/MethodHandle" ∧ y.cls ≠ "java/lang/invoke/VarHandle" ∧ (parseMethodDescriptor y.desc).map (fun d => d.parameters.length) = some n) (hR : fr + 1 ≤ R.frames ∧ 8 + (maxL + 11) + lo ≤ R.locals) (hws : ws = w0 ++ wc) (hn : As.length = n) (hst : st = As.reverse ++ rest) (hcat : (rest.map fun v => v.category).sum ≤ 8) (hd : decode cc pc = .ok (.invokestatic index, 3)) (hroom : cs + mc ≤ R.cells ∧ sl + ms ≤ R.slots) (hp : pc + 3 = pc') (kk : ∀ (v : Option Value) (w : va_W), post v w → AD w wc ∧ GG p l e R s m args below meth c D A nL ro (cs + mc) (sl + ms) Q (w0 ++ w) pc' lv (v.toList ++ rest)) : GG p l e R s m args below meth c D A nL ro cs sl Q ws pc lv st := by
  subst hws
  refine g_callSPq X hA hro0 hM hG hw hdsc hR (List.range' w0.length wc.length) (wa_map_at w0 wc) (wa_nd _ List.nodup_range') hn hst hcat hd hroom hp (fun v w hv => ?_)
  obtain ⟨hAD, hk⟩ := kk v w hv
  obtain ⟨w1, w2, h1, h2⟩ := hAD.split
  refine ⟨w1, w2, h1, h2, ?_⟩
  have hl : wc.length = w1.length := by have := congrArg List.length h2; simpa using this.symm
  rw [wput_end hl]
  refine g_perm (ws' := w0 ++ w) ?_ hk
  rw [List.append_assoc]
  exact List.Perm.append_left _ h1.symm
theorem g_callSXs (X : GX p l e R s m args below meth c D A nL cc own Ts) {y : MethodName} {wsy wsy' : List Cond} {bytes : ByteArray} {maxL fr lo n index : Nat} {As rest : List Value} {ret : Option FieldType} {mc ms : Nat} {post : Option Value → va_W → Prop} (hA : ∀ q, s.heap.size ≤ q → A q) (hro0 : ro = false) (hM : MW l y wsy fr lo mc ms D As ws post) (hG : GoodIn Ts (va_wsS own index y wsy)) (hw : wsy = Cond.code y bytes maxL ret :: wsy') (hdsc : y.cls ≠ "java/lang/invoke/MethodHandle" ∧ y.cls ≠ "java/lang/invoke/VarHandle" ∧ (parseMethodDescriptor y.desc).map (fun d => d.parameters.length) = some n) (hR : fr + 1 ≤ R.frames ∧ 8 + (maxL + 11) + lo ≤ R.locals) (hn : As.length = n) (hst : st = As.reverse ++ rest) (hcat : (rest.map fun v => v.category).sum ≤ 8) (hd : decode cc pc = .ok (.invokestatic index, 3)) (hroom : cs + mc ≤ R.cells ∧ sl + ms ≤ R.slots) (hp : pc + 3 = pc') (kk : ∀ (v : Option Value) (w : va_W), post v w → AD w ws ∧ GG p l e R s m args below meth c D A nL ro (cs + mc) (sl + ms) Q w pc' lv (v.toList ++ rest)) : GG p l e R s m args below meth c D A nL ro cs sl Q ws pc lv st := g_callSX (w0 := []) X hA hro0 hM hG hw hdsc hR rfl hn hst hcat hd hroom hp kk
theorem g_callVRX (X : GX p l e R s m args below meth c D A nL cc own Ts) {y : MethodName} {wsy wsy' : List Cond} {bytes : ByteArray} {maxL fr lo n index : Nat} {w0 wc : va_W} {As rest : List Value} {ret : Option FieldType} {b : Nat} {C : String} {T : u_T} {N ci : Nat} {fs : List Value} {post : Option Value → Prop} (hM : MR l y wsy fr lo D (.ref b :: As) wc post) (hG : GoodIn Ts (wsV own index C y wsy)) (hw : wsy = Cond.code y bytes maxL ret :: wsy') (hdsc : y.cls = C ∧ y.cls ≠ "java/lang/invoke/MethodHandle" ∧ y.cls ≠ "java/lang/invoke/VarHandle" ∧ (parseMethodDescriptor y.desc).map (fun d => d.parameters.length) = some n) (hR : fr + 1 ≤ R.frames ∧ 8 + (maxL + 11) + lo ≤ R.locals) (qr : Nat) (hrec : wc[qr]? = some (b, .inr (ci, fs))) (hcl : vwCl[ci]? = some (C, T, N)) (hws : ws = w0 ++ wc) (hn : As.length = n) (hst : st = As.reverse ++ .ref b :: rest) (hcat : (rest.map fun v => v.category).sum ≤ 8) (hd : decode cc pc = .ok (.invokevirtual index, 3)) (hroom : cs ≤ R.cells ∧ sl ≤ R.slots) (hp : pc + 3 = pc') (kk : ∀ v : Option Value, post v → GG p l e R s m args below meth c D A nL ro cs sl Q ws pc' lv (v.toList ++ rest)) : GG p l e R s m args below meth c D A nL ro cs sl Q ws pc lv st := by
  subst hws
  exact g_callVRq X hM hG hw hdsc hR qr hrec hcl (List.range' w0.length wc.length) (wa_map_at w0 wc) (wa_nd _ List.nodup_range') hn hst hcat hd hroom hp kk
theorem g_sld (X : GX p l e R s m args below meth c D A nL cc own Ts) {b L k : Nat} {xs : Nat → Int32} {i : Int32} (hX : va_X b L xs s s.heap) (hbl : b < s.heap.size) (hbA : ¬ A b) (hd : decode cc pc = .ok (.iaload, 1)) (hi : i = nI k) (hk : k < L) (hL : L < 2 ^ 31) (hp : pc + 1 = pc') (kk : GG p l e R s m args below meth c D A nL ro cs sl Q ws pc' lv (.int (xs k) :: st)) : GG p l e R s m args below meth c D A nL ro cs sl Q ws pc lv (.int i :: .ref b :: st) := by
  subst hp
  obtain ⟨h1, h2⟩ := ix_of hi hk hL
  obtain ⟨hx, hb, hml, hown, hts, hlk, hE⟩ := X
  intro H locs ls hro hP hD hS hl
  exact va_sld hx hb hX hbl hbA hS h1 hd (by rw [h2]; exact kk H locs ls hro hP hD hS hl)
theorem g_slenL (X : GX p l e R s m args below meth c D A nL cc own Ts) {b L : Nat} {xs : Nat → Int32} (hX : va_X b L xs s s.heap) (hbl : b < s.heap.size) (hbA : ¬ A b) (hd : decode cc pc = .ok (.arraylength, 1)) (hp : pc + 1 = pc') (kk : GG p l e R s m args below meth c D A nL ro cs sl Q ws pc' lv (.int (nI L) :: st)) : GG p l e R s m args below meth c D A nL ro cs sl Q ws pc lv (.ref b :: st) := by
  subst hp
  obtain ⟨hx, hb, hml, hown, hts, hlk, hE⟩ := X
  intro H locs ls hro hP hD hS hl
  exact va_slen hx hb hX hbl hbA hS hd (kk H locs ls hro hP hD hS hl)
end GLAWX
def xsP (D : DT) (A : Nat → Prop) (av : List Value) (b L : Nat) (xs : Nat → Int32) : Array Value → State → Prop := va_Pc av (fun U => va_X b L xs U U.heap ∧ b < U.heap.size ∧ ¬ A b ∧ EX D A U U.heap)
def MX (l : Launch) (y : MethodName) (wsy : List Cond) (fr lo : Nat) (D : DT) (av : List Value) (b L : Nat) (xs : Nat → Int32) (post : Option Value → Prop) : Prop :=
  ∀ A : Nat → Prop, Met l y wsy (wRoom fr lo 0 0) (xsP D A av b L xs) (roQ post) 0 0 (fun _ => False)
theorem va_X_same {b L : Nat} {xs : Nat → Int32} {U V : State} (hv : V.vm = U.vm) (hh : V.heap = U.heap) (h : va_X b L xs U U.heap) : va_X b L xs V V.heap := by
  rw [hh]
  exact va_X.moved (by rw [hv]; exact Vm.Alike.refl _) h
theorem xsP_blind {D : DT} {A : Nat → Prop} {av : List Value} {b L : Nat} {xs : Nat → Int32} : FrameBlind (xsP D A av b L xs) := fun a U g mk h => ⟨h.1, va_X_same rfl rfl h.2.1, h.2.2.1, h.2.2.2.1, h.2.2.2.2.same rfl rfl⟩
theorem MX.of {l : Launch} {y : MethodName} {wsy wsy' : List Cond} {fr lo : Nat} {D : DT} {av : List Value} {b L : Nat} {xs : Nat → Int32} {post : Option Value → Prop} {cc : ByteArray} {maxL : Nat} {ret : Option FieldType} {lv : List (Nat × Value)} (hy : plainName y.cls = true) (hw : wsy = Cond.code y cc maxL ret :: wsy') (hav : (lg_sl av).length ≤ maxL) (hlv : lv_args 0 av = lv)
    (body : ∀ (p : Program) (e : Env) (s : State) (m : MethodId) (below : List Frame) (meth : Method) (c : Code) (A : Nat → Prop), GX p l e (wRoom fr lo 0 0) s m av.toArray below meth c D A maxL cc y.cls wsy → meth.sig.returnType = ret → va_X b L xs s s.heap → b < s.heap.size → ¬ A b →
      GG p l e (wRoom fr lo 0 0) s m av.toArray below meth c D A maxL true 0 0 (MQ below (roQ post) av.toArray s 0 0 (fun _ => False)) [] 0 lv []) : MX l y wsy fr lo D av b L xs post := by
  intro A
  refine Met.ofW (cc := cc) (maxL := maxL) (ret := ret) hy hw ?_
  intro p e s m args below meth c s₁ B hml hv
  obtain ⟨rfl, hX, hbl, hbA, hE⟩ := hv
  have hl := lv_entry av (n := maxL) hav
  rw [lg_entry_eq]
  rw [hlv] at hl
  have hP0 : va_P D.1 vwCl ([] : va_W) s.heap := by
    intro k q h
    rw [List.getElem?_nil] at h
    exact absurd h (by simp)
  have hD0 : va_D A ([] : va_W) := ⟨fun i j x y h => absurd h (by rw [List.getElem?_nil]; simp), fun k q h => absurd h (by rw [List.getElem?_nil]; simp)⟩
  exact body p e s m below meth c A ⟨B.exec, B.bytes, hml, findClass_of_methodNamed B.named, atoms_spec (ws := wsy) B.pre, B.notSynchronized, hE⟩ B.returns hX hbl hbA s.heap [] _ (fun _ => ⟨rfl, rfl⟩) hP0 hD0 va_S.rf hl
section GCELL
variable {p : Program} {l : Launch} {e : Env} {R : Room} {s : State} {m : MethodId} {args : Array Value} {below : List Frame} {meth : Method} {c : Code} {D : DT} {A : Nat → Prop} {nL : Nat} {ro : Bool} {cs sl : Nat} {Q : State → Prop} {cc : ByteArray} {own : String} {Ts : List Cond} {ws : va_W} {lv : List (Nat × Value)} {st : List Value} {pc pc' : Nat}
theorem g_callSM (X : GX p l e R s m args below meth c D A nL cc own Ts) {y : MethodName} {wsy wsy' : List Cond} {bytes : ByteArray} {maxL fr lo n index : Nat} {b L : Nat} {xs : Nat → Int32} {As rest : List Value} {ret : Option FieldType} {post : Option Value → Prop} (hX : va_X b L xs s s.heap) (hbl : b < s.heap.size) (hbA : ¬ A b) (hM : MX l y wsy fr lo D As b L xs post) (hG : GoodIn Ts (va_wsS own index y wsy)) (hw : wsy = Cond.code y bytes maxL ret :: wsy') (hdsc : y.cls ≠ "java/lang/invoke/MethodHandle" ∧ y.cls ≠ "java/lang/invoke/VarHandle" ∧ (parseMethodDescriptor y.desc).map (fun d => d.parameters.length) = some n) (hR : fr + 1 ≤ R.frames ∧ 8 + (maxL + 11) + lo ≤ R.locals) (hn : As.length = n) (hst : st = As.reverse ++ rest) (hcat : (rest.map fun v => v.category).sum ≤ 8) (hd : decode cc pc = .ok (.invokestatic index, 3)) (hroom : cs ≤ R.cells ∧ sl ≤ R.slots) (hp : pc + 3 = pc') (kk : ∀ v : Option Value, post v → GG p l e R s m args below meth c D A nL ro cs sl Q ws pc' lv (v.toList ++ rest)) : GG p l e R s m args below meth c D A nL ro cs sl Q ws pc lv st := by
  subst hp; subst hst
  obtain ⟨hx, hb, hml, hown, hts, hlk, hE⟩ := X
  intro H locs ls hro hP hD hS hl
  have hr : va_Run p l e R s m args below meth c H locs cs sl 0 0 (F0 m pc ls (As.reverse ++ rest)) rest ((roQ post) (As).toArray) (fun _ => False) := va_runS ⟨hx, hb, hml, hown, hts⟩ (hM A) (va_cwS n hts hG hw rfl rfl hdsc hR) ⟨xsP_blind, fun U hU hW => ⟨rfl, by rw [hU]; exact va_X.moved hW.alike (va_X.kept hX (hS.2.1 b hbl hbA)), by rw [hU]; exact Nat.lt_of_lt_of_le hbl hS.1, hbA, hE.call hS (fun q h => h) hU hW⟩⟩ rfl hn hl.1 rfl (lv_room hcat) hd hroom
  intro T hT X
  obtain ⟨v, st₀, t, T', L, e0, X', hL, e1, e2, ⟨v', hv, hp, hh⟩, stp⟩ := hr T hT X
  cases hv
  obtain ⟨t2, a1, b1⟩ := kk v hp H locs ls hro hP hD hS hl T' (by rw [e1, hh, e0]) (Stand.forget X' (fun q h => (hL q h).elim))
  exact ⟨t2, stp t2 a1, b1⟩
end GCELL
