theorem wa_map_pre (wc wr : va_W) : (List.range' 0 wc.length).map (fun i => (wc ++ wr)[i]?) = wc.map some := by
  apply List.ext_getElem?
  intro k
  by_cases h : k < wc.length
  · rw [List.getElem?_map, List.getElem?_map, List.getElem?_range' h, List.getElem?_eq_getElem h]
    show some ((wc ++ wr)[0 + 1 * k]?) = some (some wc[k])
    rw [Nat.one_mul, Nat.zero_add, List.getElem?_append_left h, List.getElem?_eq_getElem h]
  · rw [List.getElem?_eq_none (by rw [List.length_map, List.length_range']; omega), List.getElem?_eq_none (by rw [List.length_map]; omega)]
section GLAW
variable {p : Program} {l : Launch} {e : Env} {R : Room} {s : State} {m : MethodId} {args : Array Value} {below : List Frame} {meth : Method} {c : Code} {D : DT} {A : Nat → Prop} {nL : Nat} {ro : Bool} {cs sl : Nat} {Q : State → Prop} {cc : ByteArray} {own : String} {Ts : List Cond} {ws : va_W} {lv : List (Nat × Value)} {st : List Value} {pc pc' : Nat}
theorem g_callVRX (X : GX p l e R s m args below meth c D A nL cc own Ts) {y : MethodName} {wsy wsy' : List Cond} {bytes : ByteArray} {maxL fr lo n index : Nat} {w0 wc : va_W} {As rest : List Value} {ret : Option FieldType} {b : Nat} {C : String} {T : u_T} {N ci : Nat} {fs : List Value} {post : Option Value → Prop} (hM : MR l y wsy fr lo D (.ref b :: As) wc post) (hG : GoodIn Ts (wsV own index C y wsy)) (hw : wsy = Cond.code y bytes maxL ret :: wsy') (hdsc : y.cls = C ∧ y.cls ≠ "java/lang/invoke/MethodHandle" ∧ y.cls ≠ "java/lang/invoke/VarHandle" ∧ (parseMethodDescriptor y.desc).map (fun d => d.parameters.length) = some n) (hR : fr + 1 ≤ R.frames ∧ 8 + (maxL + 11) + lo ≤ R.locals) (qr : Nat) (hrec : wc[qr]? = some (b, .inr (ci, fs))) (hcl : vwCl[ci]? = some (C, T, N)) (hws : ws = w0 ++ wc) (hn : As.length = n) (hst : st = As.reverse ++ .ref b :: rest) (hcat : (rest.map fun v => v.category).sum ≤ 8) (hd : decode cc pc = .ok (.invokevirtual index, 3)) (hroom : cs ≤ R.cells ∧ sl ≤ R.slots) (hp : pc + 3 = pc') (kk : ∀ v : Option Value, post v → GG p l e R s m args below meth c D A nL ro cs sl Q ws pc' lv (v.toList ++ rest)) : GG p l e R s m args below meth c D A nL ro cs sl Q ws pc lv st := by
  subst hws
  exact g_callVRq X hM hG hw hdsc hR qr hrec hcl (List.range' w0.length wc.length) (wa_map_at w0 wc) (wa_nd _ List.nodup_range') hn hst hcat hd hroom hp kk
theorem g_callVRp (X : GX p l e R s m args below meth c D A nL cc own Ts) {y : MethodName} {wsy wsy' : List Cond} {bytes : ByteArray} {maxL fr lo n index : Nat} {wc wr : va_W} {As rest : List Value} {ret : Option FieldType} {b : Nat} {C : String} {T : u_T} {N ci : Nat} {fs : List Value} {post : Option Value → Prop} (hM : MR l y wsy fr lo D (.ref b :: As) wc post) (hG : GoodIn Ts (wsV own index C y wsy)) (hw : wsy = Cond.code y bytes maxL ret :: wsy') (hdsc : y.cls = C ∧ y.cls ≠ "java/lang/invoke/MethodHandle" ∧ y.cls ≠ "java/lang/invoke/VarHandle" ∧ (parseMethodDescriptor y.desc).map (fun d => d.parameters.length) = some n) (hR : fr + 1 ≤ R.frames ∧ 8 + (maxL + 11) + lo ≤ R.locals) (qr : Nat) (hrec : wc[qr]? = some (b, .inr (ci, fs))) (hcl : vwCl[ci]? = some (C, T, N)) (hws : ws = wc ++ wr) (hn : As.length = n) (hst : st = As.reverse ++ .ref b :: rest) (hcat : (rest.map fun v => v.category).sum ≤ 8) (hd : decode cc pc = .ok (.invokevirtual index, 3)) (hroom : cs ≤ R.cells ∧ sl ≤ R.slots) (hp : pc + 3 = pc') (kk : ∀ v : Option Value, post v → GG p l e R s m args below meth c D A nL ro cs sl Q ws pc' lv (v.toList ++ rest)) : GG p l e R s m args below meth c D A nL ro cs sl Q ws pc lv st := by
  subst hws
  exact g_callVRq X hM hG hw hdsc hR qr hrec hcl (List.range' 0 wc.length) (wa_map_pre wc wr) (wa_nd _ List.nodup_range') hn hst hcat hd hroom hp kk
theorem g_callVWp (X : GX p l e R s m args below meth c D A nL cc own Ts) {y : MethodName} {wsy wsy' : List Cond} {bytes : ByteArray} {maxL fr lo n index : Nat} {wc wr : va_W} {As rest : List Value} {ret : Option FieldType} {b : Nat} {C : String} {T : u_T} {N ci : Nat} {fs : List Value} {mc ms : Nat} {post : Option Value → va_W → Prop} (hA : ∀ q, s.heap.size ≤ q → A q) (hro0 : ro = false) (hM : MW l y wsy fr lo mc ms D (.ref b :: As) wc post) (hG : GoodIn Ts (wsV own index C y wsy)) (hw : wsy = Cond.code y bytes maxL ret :: wsy') (hdsc : y.cls = C ∧ y.cls ≠ "java/lang/invoke/MethodHandle" ∧ y.cls ≠ "java/lang/invoke/VarHandle" ∧ (parseMethodDescriptor y.desc).map (fun d => d.parameters.length) = some n) (hR : fr + 1 ≤ R.frames ∧ 8 + (maxL + 11) + lo ≤ R.locals) (qr : Nat) (hrec : wc[qr]? = some (b, .inr (ci, fs))) (hcl : vwCl[ci]? = some (C, T, N)) (hws : ws = wc ++ wr) (hn : As.length = n) (hst : st = As.reverse ++ .ref b :: rest) (hcat : (rest.map fun v => v.category).sum ≤ 8) (hd : decode cc pc = .ok (.invokevirtual index, 3)) (hroom : cs + mc ≤ R.cells ∧ sl + ms ≤ R.slots) (hp : pc + 3 = pc') (kk : ∀ (v : Option Value) (w : va_W), post v w → w.map Prod.fst = wc.map Prod.fst ∧ GG p l e R s m args below meth c D A nL ro (cs + mc) (sl + ms) Q (w ++ wr) pc' lv (v.toList ++ rest)) : GG p l e R s m args below meth c D A nL ro cs sl Q ws pc lv st := by
  subst hws
  refine g_callVWq X hA hro0 hM hG hw hdsc hR qr hrec hcl (List.range' 0 wc.length) (wa_map_pre wc wr) (wa_nd _ List.nodup_range') hn hst hcat hd hroom hp (fun v w hv => ?_)
  obtain ⟨h1, h2⟩ := kk v w hv
  refine ⟨h1, ?_⟩
  rw [wput_at0 (k := wc.length) rfl (by have := congrArg List.length h1; simpa using this) rfl]
  exact h2
theorem g_sld (X : GX p l e R s m args below meth c D A nL cc own Ts) {b L k : Nat} {xs : Nat → Int32} {i : Int32} (hX : va_X b L xs s s.heap) (hbl : b < s.heap.size) (hbA : ¬ A b) (hd : decode cc pc = .ok (.iaload, 1)) (hi : i = nI k) (hk : k < L) (hL : L < 2 ^ 31) (hp : pc + 1 = pc') (kk : GG p l e R s m args below meth c D A nL ro cs sl Q ws pc' lv (.int (xs k) :: st)) : GG p l e R s m args below meth c D A nL ro cs sl Q ws pc lv (.int i :: .ref b :: st) := by
  subst hp
  obtain ⟨h1, h2⟩ := ix_of hi hk hL
  obtain ⟨hx, hb, hml, hown, hts, hlk, hE⟩ := X
  intro H locs ls hro hP hD hS hl
  exact va_sld hx hb hX hbl hbA hS h1 hd (by rw [h2]; exact kk H locs ls hro hP hD hS hl)
theorem g_slenL (X : GX p l e R s m args below meth c D A nL cc own Ts) {b L : Nat} {xs : Nat → Int32} (hX : va_X b L xs s s.heap) (hbl : b < s.heap.size) (hbA : ¬ A b) (hd : decode cc pc = .ok (.arraylength, 1)) (hp : pc + 1 = pc') (kk : GG p l e R s m args below meth c D A nL ro cs sl Q ws pc' lv (.int (nI L) :: st)) : GG p l e R s m args below meth c D A nL ro cs sl Q ws pc lv (.ref b :: st) := by
  subst hp
  obtain ⟨hx, hb, hml, hown, hts, hlk, hE⟩ := X
  intro H locs ls hro hP hD hS hl
  exact va_slen hx hb hX hbl hbA hS hd (kk H locs ls hro hP hD hS hl)
theorem g_toplN {v : Int64} (kk : ∀ n : Nat, n < 2 ^ 64 → v = lN n → GG p l e R s m args below meth c D A nL ro cs sl Q ws pc lv (.long (lN n) :: st)) : GG p l e R s m args below meth c D A nL ro cs sl Q ws pc lv (.long v :: st) := by
  obtain ⟨n, h1, h2⟩ := lN_ex v
  have := kk n h1 h2
  rw [← h2] at this
  exact this
end GLAW
/-- the law's world: the reference's object, behind it the class's -/
abbrev wL (D : DT) (a a2 : Nat → Nat) (f : Nat → Int32) (na : Nat → Nat → Int32) (w td vl : Nat → Int32) (Lp pt fl : Nat) (kd : Int32) (kp km : Nat) (pq ps : Nat → Option HH) (fp fs fv fg fw ft fn : Nat → Int32) (i1 : Nat) (wk sp iw od : Int32) : va_W :=
  wM D a2 f fp fs fv fg fw td ft fn (nI i1) (nI km) wk (nI Lp) sp iw od ++ wB D a f na w td vl Lp pt fl kd kp (fqa pq) (fqa ps) (tlW D pq ps)
/-- the law goes on behind a case -/
def LGO (p : Program) (l : Launch) (e : Env) (s : State) (m : MethodId) (b : Nat) (below : List Frame) (meth : Method) (c : Code) (D : DT) (A : Nat → Prop) (a a2 : Nat → Nat) (cs sl : Nat) (Q : State → Prop) (i : Nat) : Prop :=
  ∀ (f : Nat → Int32) (na : Nat → Nat → Int32) (w td vl : Nat → Int32) (Lp pt fl : Nat) (kd : Int32) (kp km : Nat) (pq ps : Nat → Option HH) (fp fs fv fg fw ft fn : Nat → Int32) (i1 : Nat) (wk sp iw od : Int32) (sv : Nat → Bool),
    INV f na td Lp kp km pq ps fp fs fv i1 sv → GG p l e room_1 s m #[Value.ref b] below meth c D A 4 false cs sl Q (wL D a a2 f na w td vl Lp pt fl kd kp km pq ps fp fs fv fg fw ft fn i1 wk sp iw od) 941 [(0, .ref b), (1, .ref (a 19)), (2, .ref (a2 0)), (3, .int (nI i))] []
