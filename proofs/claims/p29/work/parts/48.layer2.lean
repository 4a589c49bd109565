section GL2
variable {p : Program} {l : Launch} {e : Env} {R : Room} {s : State} {m : MethodId} {args : Array Value} {below : List Frame} {meth : Method} {c : Code} {D : DT} {A : Nat → Prop} {nL : Nat} {ro : Bool} {cs sl : Nat} {Q : State → Prop} {cc : ByteArray} {own : String} {Ts : List Cond} {ws : va_W} {lv : List (Nat × Value)} {st : List Value} {pc pc' : Nat}
theorem g_callVRq (X : GX p l e R s m args below meth c D A nL cc own Ts) {y : MethodName} {wsy wsy' : List Cond} {bytes : ByteArray} {maxL fr lo n index : Nat} {wc : va_W} {As rest : List Value} {ret : Option FieldType} {b : Nat} {C : String} {T : u_T} {N ci : Nat} {fs : List Value} {post : Option Value → Prop} (hM : MR l y wsy fr lo D (.ref b :: As) wc post) (hG : GoodIn Ts (wsV own index C y wsy)) (hw : wsy = Cond.code y bytes maxL ret :: wsy') (hdsc : y.cls = C ∧ y.cls ≠ "java/lang/invoke/MethodHandle" ∧ y.cls ≠ "java/lang/invoke/VarHandle" ∧ (parseMethodDescriptor y.desc).map (fun d => d.parameters.length) = some n) (hR : fr + 1 ≤ R.frames ∧ 8 + (maxL + 11) + lo ≤ R.locals) (qr : Nat) (hrec : wc[qr]? = some (b, .inr (ci, fs))) (hcl : vwCl[ci]? = some (C, T, N)) (isC : List Nat) (hC : isC.map (fun i => ws[i]?) = wc.map some) (hnd : va_nd isC = true) (hn : As.length = n) (hst : st = As.reverse ++ .ref b :: rest) (hcat : (rest.map fun v => v.category).sum ≤ 8) (hd : decode cc pc = .ok (.invokevirtual index, 3)) (hroom : cs ≤ R.cells ∧ sl ≤ R.slots) (hp : pc + 3 = pc') (kk : ∀ v : Option Value, post v → GG p l e R s m args below meth c D A nL ro cs sl Q ws pc' lv (v.toList ++ rest)) : GG p l e R s m args below meth c D A nL ro cs sl Q ws pc lv st := by
  subst hp; subst hst
  obtain ⟨hx, hb, hml, hown, hts, hlk, hE⟩ := X
  intro H locs ls hro hP hD hS hl
  have hPc : va_P D.1 vwCl wc H := by
    intro k q hk
    have h3 : (isC.map (fun i => ws[i]?))[k]? = some (some q) := by rw [hC, List.getElem?_map, hk]; rfl
    rw [List.getElem?_map] at h3
    cases hi : isC[k]? with
    | none => rw [hi] at h3; cases h3
    | some i => rw [hi] at h3; exact hP i q (Option.some.inj h3)
  have hDc : va_D A wc := hD.sub isC hnd hC
  have hr : va_Run p l e R s m args below meth c H locs cs sl 0 0 (F0 m pc ls (As.reverse ++ .ref b :: rest)) rest ((roQ post) ((Value.ref b :: As)).toArray) (fun _ => False) := va_runV ⟨hx, hb, hml, hown, hts⟩ (hM A) (cwV n hts hG hw rfl rfl hdsc hR) ⟨roP_blind, va_recv hE.1 hPc hcl hrec, fun U hU hW => ⟨rfl, by rw [hU]; exact hPc, hDc, hE.call hS (fun q h => h) hU hW⟩⟩ rfl hn hl.1 rfl (lv_room hcat) hd hroom
  intro T hT X
  obtain ⟨v, st₀, t, T', L, e0, X', hL, e1, e2, ⟨v', hv, hp, hh⟩, stp⟩ := hr T hT X
  cases hv
  obtain ⟨t2, a1, b1⟩ := kk v hp H locs ls hro hP hD hS hl T' (by rw [e1, hh, e0]) (Stand.forget X' (fun q h => (hL q h).elim))
  exact ⟨t2, stp t2 a1, b1⟩
theorem g_callVWq (X : GX p l e R s m args below meth c D A nL cc own Ts) {y : MethodName} {wsy wsy' : List Cond} {bytes : ByteArray} {maxL fr lo n index : Nat} {wc : va_W} {As rest : List Value} {ret : Option FieldType} {b : Nat} {C : String} {T : u_T} {N ci : Nat} {fs : List Value} {mc ms : Nat} {post : Option Value → va_W → Prop} (hA : ∀ q, s.heap.size ≤ q → A q) (hro0 : ro = false) (hM : MW l y wsy fr lo mc ms D (.ref b :: As) wc post) (hG : GoodIn Ts (wsV own index C y wsy)) (hw : wsy = Cond.code y bytes maxL ret :: wsy') (hdsc : y.cls = C ∧ y.cls ≠ "java/lang/invoke/MethodHandle" ∧ y.cls ≠ "java/lang/invoke/VarHandle" ∧ (parseMethodDescriptor y.desc).map (fun d => d.parameters.length) = some n) (hR : fr + 1 ≤ R.frames ∧ 8 + (maxL + 11) + lo ≤ R.locals) (qr : Nat) (hrec : wc[qr]? = some (b, .inr (ci, fs))) (hcl : vwCl[ci]? = some (C, T, N)) (isC : List Nat) (hC : isC.map (fun i => ws[i]?) = wc.map some) (hnd : va_nd isC = true) (hn : As.length = n) (hst : st = As.reverse ++ .ref b :: rest) (hcat : (rest.map fun v => v.category).sum ≤ 8) (hd : decode cc pc = .ok (.invokevirtual index, 3)) (hroom : cs + mc ≤ R.cells ∧ sl + ms ≤ R.slots) (hp : pc + 3 = pc') (kk : ∀ (v : Option Value) (w : va_W), post v w → w.map Prod.fst = wc.map Prod.fst ∧ GG p l e R s m args below meth c D A nL ro (cs + mc) (sl + ms) Q (wput ws isC w) pc' lv (v.toList ++ rest)) : GG p l e R s m args below meth c D A nL ro cs sl Q ws pc lv st := by
  subst hp; subst hst
  obtain ⟨hx, hb, hml, hown, hts, hlk, hE⟩ := X
  intro H locs ls hro hP hD hS hl
  have hPc : va_P D.1 vwCl wc H := by
    intro k q hk
    have h3 : (isC.map (fun i => ws[i]?))[k]? = some (some q) := by rw [hC, List.getElem?_map, hk]; rfl
    rw [List.getElem?_map] at h3
    cases hi : isC[k]? with
    | none => rw [hi] at h3; cases h3
    | some i => rw [hi] at h3; exact hP i q (Option.some.inj h3)
  have hDc : va_D (va_A wc H.size) wc := (hD.sub isC hnd hC).self
  have hFc := va_free (wc := wc) hD hS hA isC hC
  have hr : va_Run p l e R s m args below meth c H locs cs sl mc ms (F0 m pc ls (As.reverse ++ .ref b :: rest)) rest ((wrQ D wc H.size post) ((Value.ref b :: As)).toArray) (va_A wc H.size) := va_runV ⟨hx, hb, hml, hown, hts⟩ (hM H.size) (cwV n hts hG hw rfl rfl hdsc hR) ⟨wrP_blind, va_recv hE.1 hPc hcl hrec, fun U hU hW => ⟨rfl, by rw [hU], by rw [hU]; exact hPc, hDc, hE.call hS (fun q h => hFc q h) hU hW⟩⟩ rfl hn hl.1 rfl (lv_room hcat) hd hroom
  intro T hT X
  obtain ⟨v, st₀, t, T', L, e0, X', hL, e1, e2, ⟨⟨v', w, hv, hp, hPw, hDw⟩, hz, hk⟩, stp⟩ := hr T hT X
  cases hv
  rw [e0] at hz hk
  have hS1 : va_S A s.heap t.heap (locs ++ L) := ⟨Nat.le_trans hS.1 hz, fun q h1 h2 => by rw [hk q (Nat.lt_of_lt_of_le h1 hS.1) (fun z => h2 (hFc q z))]; exact hS.2.1 q h1 h2, fun q hq => by
      rcases List.mem_append.mp hq with h | h
      · exact hS.2.2 q h
      · exact hFc _ (hL q h)⟩
  obtain ⟨hw0, kk⟩ := kk v w hp
  obtain ⟨t2, a1, b1⟩ := kk t.heap (locs ++ L) ls (fun h => by cases hro0.symm.trans h) (wput_join hP hD isC hC hw0 hk hPw) (wput_D hC hw0 hD) hS1 hl T' e1 X'
  exact ⟨t2, stp t2 a1, b1⟩
theorem g_callVAq (X : GX p l e R s m args below meth c D A nL cc own Ts) {y : MethodName} {wsy wsy' : List Cond} {bytes : ByteArray} {maxL fr lo n index : Nat} {wc : va_W} {As rest : List Value} {ret : Option FieldType} {b : Nat} {C : String} {T : u_T} {N ci : Nat} {fs : List Value} {mc ms : Nat} {post : Option Value → va_W → Prop} (hA : ∀ q, s.heap.size ≤ q → A q) (hro0 : ro = false) (hM : MW l y wsy fr lo mc ms D (.ref b :: As) wc post) (hG : GoodIn Ts (wsV own index C y wsy)) (hw : wsy = Cond.code y bytes maxL ret :: wsy') (hdsc : y.cls = C ∧ y.cls ≠ "java/lang/invoke/MethodHandle" ∧ y.cls ≠ "java/lang/invoke/VarHandle" ∧ (parseMethodDescriptor y.desc).map (fun d => d.parameters.length) = some n) (hR : fr + 1 ≤ R.frames ∧ 8 + (maxL + 11) + lo ≤ R.locals) (qr : Nat) (hrec : wc[qr]? = some (b, .inr (ci, fs))) (hcl : vwCl[ci]? = some (C, T, N)) (isC : List Nat) (hC : isC.map (fun i => ws[i]?) = wc.map some) (hnd : va_nd isC = true) (hn : As.length = n) (hst : st = As.reverse ++ .ref b :: rest) (hcat : (rest.map fun v => v.category).sum ≤ 8) (hd : decode cc pc = .ok (.invokevirtual index, 3)) (hroom : cs + mc ≤ R.cells ∧ sl + ms ≤ R.slots) (hp : pc + 3 = pc') (kk : ∀ (v : Option Value) (w : va_W), post v w → ∃ w1 w2 : va_W, w = w1 ++ w2 ∧ w1.map Prod.fst = wc.map Prod.fst ∧ GG p l e R s m args below meth c D A nL ro (cs + mc) (sl + ms) Q (wput ws isC w1 ++ w2) pc' lv (v.toList ++ rest)) : GG p l e R s m args below meth c D A nL ro cs sl Q ws pc lv st := by
  subst hp; subst hst
  obtain ⟨hx, hb, hml, hown, hts, hlk, hE⟩ := X
  intro H locs ls hro hP hD hS hl
  have hPc : va_P D.1 vwCl wc H := by
    intro k q hk
    have h3 : (isC.map (fun i => ws[i]?))[k]? = some (some q) := by rw [hC, List.getElem?_map, hk]; rfl
    rw [List.getElem?_map] at h3
    cases hi : isC[k]? with
    | none => rw [hi] at h3; cases h3
    | some i => rw [hi] at h3; exact hP i q (Option.some.inj h3)
  have hDc : va_D (va_A wc H.size) wc := (hD.sub isC hnd hC).self
  have hFc := va_free (wc := wc) hD hS hA isC hC
  have hr : va_Run p l e R s m args below meth c H locs cs sl mc ms (F0 m pc ls (As.reverse ++ .ref b :: rest)) rest ((wrQ D wc H.size post) ((Value.ref b :: As)).toArray) (va_A wc H.size) := va_runV ⟨hx, hb, hml, hown, hts⟩ (hM H.size) (cwV n hts hG hw rfl rfl hdsc hR) ⟨wrP_blind, va_recv hE.1 hPc hcl hrec, fun U hU hW => ⟨rfl, by rw [hU], by rw [hU]; exact hPc, hDc, hE.call hS (fun q h => hFc q h) hU hW⟩⟩ rfl hn hl.1 rfl (lv_room hcat) hd hroom
  intro T hT X
  obtain ⟨v, st₀, t, T', L, e0, X', hL, e1, e2, ⟨⟨v', w, hv, hp, hPw, hDw⟩, hz, hk⟩, stp⟩ := hr T hT X
  cases hv
  rw [e0] at hz hk
  have hS1 : va_S A s.heap t.heap (locs ++ L) := ⟨Nat.le_trans hS.1 hz, fun q h1 h2 => by rw [hk q (Nat.lt_of_lt_of_le h1 hS.1) (fun z => h2 (hFc q z))]; exact hS.2.1 q h1 h2, fun q hq => by
      rcases List.mem_append.mp hq with h | h
      · exact hS.2.2 q h
      · exact hFc _ (hL q h)⟩
  obtain ⟨w1, w2, hw12, hw0, kk⟩ := kk v w hp
  subst hw12
  have hP1 : va_P D.1 vwCl w1 t.heap := fun k q h => hPw k q (by rw [List.getElem?_append_left (List.getElem?_eq_some_iff.mp h).1]; exact h)
  have hP2 : va_P D.1 vwCl w2 t.heap := fun k q h => hPw (w1.length + k) q (by rw [List.getElem?_append_right (by omega)]; simpa using h)
  have hD2 : va_D (va_A wc H.size) w2 := ⟨fun i j x y hi hj hxy => by
    have := hDw.1 (w1.length + i) (w1.length + j) x y (by rw [List.getElem?_append_right (by omega)]; simpa using hi) (by rw [List.getElem?_append_right (by omega)]; simpa using hj) hxy
    omega, fun k q h => hDw.2 (w1.length + k) q (by rw [List.getElem?_append_right (by omega)]; simpa using h)⟩
  have hDp := wput_D hC hw0 hD
  have hap : ∀ (i j : Nat) (x y : Nat × va_E), (wput ws isC w1)[i]? = some x → w2[j]? = some y → x.1 ≠ y.1 := by
    intro i j x y hi hj hxy
    have hj' : (w1 ++ w2)[w1.length + j]? = some y := by rw [List.getElem?_append_right (by omega)]; simpa using hj
    obtain ⟨ex, hex⟩ := (wput_old (A := A) hC hw0).2 i x hi
    rcases hDw.2 _ y hj' with ⟨k, e5, h5⟩ | h5
    · -- y's address is an old one of wc: then it is in w1
      have h6 : (w1.map Prod.fst)[k]? = some y.1 := by rw [hw0, List.getElem?_map, h5]; rfl
      rw [List.getElem?_map] at h6
      cases h7 : w1[k]? with
      | none => rw [h7] at h6; cases h6
      | some z =>
        rw [h7] at h6
        have h8 : (w1 ++ w2)[k]? = some z := by rw [List.getElem?_append_left (List.getElem?_eq_some_iff.mp h7).1]; exact h7
        have h9 := hDw.1 k (w1.length + j) z y h8 hj' (Option.some.inj h6)
        have h10 := (List.getElem?_eq_some_iff.mp h7).1
        omega
    · have h6 := (hP i _ hex).lt
      simp only [hxy] at h6
      omega
  obtain ⟨t2, a1, b1⟩ := kk t.heap (locs ++ L) ls (fun h => by cases hro0.symm.trans h) (va_P.app (wput_join hP hD isC hC hw0 hk hP1) hP2) (va_D.app hDp (hD2.weaken (fun k q _ h => hFc q.1 h)) hap) hS1 hl T' e1 X'
  exact ⟨t2, stp t2 a1, b1⟩
theorem g_callVRsq (X : GX p l e R s m args below meth c D A nL cc own Ts) {y : MethodName} {wsy wsy' : List Cond} {bytes : ByteArray} {maxL fr lo n index : Nat} {As rest : List Value} {ret : Option FieldType} {b : Nat} {C : String} {T : u_T} {N ci : Nat} {fs : List Value} {post : Option Value → Prop} (hM : MR l y wsy fr lo D (.ref b :: As) ws post) (hG : GoodIn Ts (wsV own index C y wsy)) (hw : wsy = Cond.code y bytes maxL ret :: wsy') (hdsc : y.cls = C ∧ y.cls ≠ "java/lang/invoke/MethodHandle" ∧ y.cls ≠ "java/lang/invoke/VarHandle" ∧ (parseMethodDescriptor y.desc).map (fun d => d.parameters.length) = some n) (hR : fr + 1 ≤ R.frames ∧ 8 + (maxL + 11) + lo ≤ R.locals) (qr : Nat) (hrec : ws[qr]? = some (b, .inr (ci, fs))) (hcl : vwCl[ci]? = some (C, T, N)) (hn : As.length = n) (hst : st = As.reverse ++ .ref b :: rest) (hcat : (rest.map fun v => v.category).sum ≤ 8) (hd : decode cc pc = .ok (.invokevirtual index, 3)) (hroom : cs ≤ R.cells ∧ sl ≤ R.slots) (hp : pc + 3 = pc') (kk : ∀ v : Option Value, post v → GG p l e R s m args below meth c D A nL ro cs sl Q ws pc' lv (v.toList ++ rest)) : GG p l e R s m args below meth c D A nL ro cs sl Q ws pc lv st :=
  g_callVRq X hM hG hw hdsc hR qr hrec hcl (List.range ws.length) (wa_map ws) (wa_nd _ List.nodup_range) hn hst hcat hd hroom hp kk
theorem g_callVWsq (X : GX p l e R s m args below meth c D A nL cc own Ts) {y : MethodName} {wsy wsy' : List Cond} {bytes : ByteArray} {maxL fr lo n index : Nat} {As rest : List Value} {ret : Option FieldType} {b : Nat} {C : String} {T : u_T} {N ci : Nat} {fs : List Value} {mc ms : Nat} {post : Option Value → va_W → Prop} (hA : ∀ q, s.heap.size ≤ q → A q) (hro0 : ro = false) (hM : MW l y wsy fr lo mc ms D (.ref b :: As) ws post) (hG : GoodIn Ts (wsV own index C y wsy)) (hw : wsy = Cond.code y bytes maxL ret :: wsy') (hdsc : y.cls = C ∧ y.cls ≠ "java/lang/invoke/MethodHandle" ∧ y.cls ≠ "java/lang/invoke/VarHandle" ∧ (parseMethodDescriptor y.desc).map (fun d => d.parameters.length) = some n) (hR : fr + 1 ≤ R.frames ∧ 8 + (maxL + 11) + lo ≤ R.locals) (qr : Nat) (hrec : ws[qr]? = some (b, .inr (ci, fs))) (hcl : vwCl[ci]? = some (C, T, N)) (hn : As.length = n) (hst : st = As.reverse ++ .ref b :: rest) (hcat : (rest.map fun v => v.category).sum ≤ 8) (hd : decode cc pc = .ok (.invokevirtual index, 3)) (hroom : cs + mc ≤ R.cells ∧ sl + ms ≤ R.slots) (hp : pc + 3 = pc') (kk : ∀ (v : Option Value) (w : va_W), post v w → w.map Prod.fst = ws.map Prod.fst ∧ GG p l e R s m args below meth c D A nL ro (cs + mc) (sl + ms) Q w pc' lv (v.toList ++ rest)) : GG p l e R s m args below meth c D A nL ro cs sl Q ws pc lv st :=
  g_callVWq X hA hro0 hM hG hw hdsc hR qr hrec hcl (List.range ws.length) (wa_map ws) (wa_nd _ List.nodup_range) hn hst hcat hd hroom hp (fun v w h => ⟨(kk v w h).1, by rw [wput_all (kk v w h).1]; exact (kk v w h).2⟩)
end GL2
section HROWS2
variable {p : Program} {l : Launch} {e : Env} {R : Room} {s : State} {m : MethodId} {args : Array Value} {below : List Frame} {meth : Method} {c : Code} {D : DT} {A : Nat → Prop} {nL : Nat} {ro : Bool} {cs sl : Nat} {Q : State → Prop} {cc : ByteArray} {own : String} {Ts : List Cond} {lv : List (Nat × Value)} {st : List Value} {pc pc' : Nat}
variable {a : Nat → Nat} {f : Nat → Int32} {na : Nat → Nat → Int32} {w : Nat → Int32}
theorem gS_ld_page (X : GX p l e R s m args below meth c D A nL cc own Ts) {i : Int32} {k : Nat} (hd : decode cc pc = .ok (.iaload, 1)) (hi : i = nI k) (hk : k < 40) (hp : pc + 1 = pc') (kk : GG p l e R s m args below meth c D A nL ro cs sl Q (wHW D a f na w) pc' lv (.int (ofM f k 0) :: st)) : GG p l e R s m args below meth c D A nL ro cs sl Q (wHW D a f na w) pc lv (.int i :: .ref (a 6) :: st) := gH_ld_Stamps_page X hd hi hk hp kk
theorem gS_st_page (X : GX p l e R s m args below meth c D A nL cc own Ts) {i x : Int32} {k : Nat} (hro : ro = false) (hd : decode cc pc = .ok (.iastore, 1)) (hi : i = nI k) (hk : k < 40) (hp : pc + 1 = pc') (kk : GG p l e R s m args below meth c D A nL ro cs sl Q (wHW D a (up f (127 + 0 + 7 * k) x) na w) pc' lv st) : GG p l e R s m args below meth c D A nL ro cs sl Q (wHW D a f na w) pc lv (.int x :: .int i :: .ref (a 6) :: st) := gH_st_Stamps_page X hro hd hi hk hp kk
theorem gS_ld_giver (X : GX p l e R s m args below meth c D A nL cc own Ts) {i : Int32} {k : Nat} (hd : decode cc pc = .ok (.iaload, 1)) (hi : i = nI k) (hk : k < 40) (hp : pc + 1 = pc') (kk : GG p l e R s m args below meth c D A nL ro cs sl Q (wHW D a f na w) pc' lv (.int (ofM f k 1) :: st)) : GG p l e R s m args below meth c D A nL ro cs sl Q (wHW D a f na w) pc lv (.int i :: .ref (a 7) :: st) := gH_ld_Stamps_giver X hd hi hk hp kk
theorem gS_st_giver (X : GX p l e R s m args below meth c D A nL cc own Ts) {i x : Int32} {k : Nat} (hro : ro = false) (hd : decode cc pc = .ok (.iastore, 1)) (hi : i = nI k) (hk : k < 40) (hp : pc + 1 = pc') (kk : GG p l e R s m args below meth c D A nL ro cs sl Q (wHW D a (up f (127 + 1 + 7 * k) x) na w) pc' lv st) : GG p l e R s m args below meth c D A nL ro cs sl Q (wHW D a f na w) pc lv (.int x :: .int i :: .ref (a 7) :: st) := gH_st_Stamps_giver X hro hd hi hk hp kk
theorem gS_ld_holder (X : GX p l e R s m args below meth c D A nL cc own Ts) {i : Int32} {k : Nat} (hd : decode cc pc = .ok (.iaload, 1)) (hi : i = nI k) (hk : k < 40) (hp : pc + 1 = pc') (kk : GG p l e R s m args below meth c D A nL ro cs sl Q (wHW D a f na w) pc' lv (.int (ofM f k 2) :: st)) : GG p l e R s m args below meth c D A nL ro cs sl Q (wHW D a f na w) pc lv (.int i :: .ref (a 8) :: st) := gH_ld_Stamps_holder X hd hi hk hp kk
theorem gS_st_holder (X : GX p l e R s m args below meth c D A nL cc own Ts) {i x : Int32} {k : Nat} (hro : ro = false) (hd : decode cc pc = .ok (.iastore, 1)) (hi : i = nI k) (hk : k < 40) (hp : pc + 1 = pc') (kk : GG p l e R s m args below meth c D A nL ro cs sl Q (wHW D a (up f (127 + 2 + 7 * k) x) na w) pc' lv st) : GG p l e R s m args below meth c D A nL ro cs sl Q (wHW D a f na w) pc lv (.int x :: .int i :: .ref (a 8) :: st) := gH_st_Stamps_holder X hro hd hi hk hp kk
theorem gS_ld_rights (X : GX p l e R s m args below meth c D A nL cc own Ts) {i : Int32} {k : Nat} (hd : decode cc pc = .ok (.iaload, 1)) (hi : i = nI k) (hk : k < 40) (hp : pc + 1 = pc') (kk : GG p l e R s m args below meth c D A nL ro cs sl Q (wHW D a f na w) pc' lv (.int (ofM f k 3) :: st)) : GG p l e R s m args below meth c D A nL ro cs sl Q (wHW D a f na w) pc lv (.int i :: .ref (a 9) :: st) := gH_ld_Stamps_rights X hd hi hk hp kk
theorem gS_st_rights (X : GX p l e R s m args below meth c D A nL cc own Ts) {i x : Int32} {k : Nat} (hro : ro = false) (hd : decode cc pc = .ok (.iastore, 1)) (hi : i = nI k) (hk : k < 40) (hp : pc + 1 = pc') (kk : GG p l e R s m args below meth c D A nL ro cs sl Q (wHW D a (up f (127 + 3 + 7 * k) x) na w) pc' lv st) : GG p l e R s m args below meth c D A nL ro cs sl Q (wHW D a f na w) pc lv (.int x :: .int i :: .ref (a 9) :: st) := gH_st_Stamps_rights X hro hd hi hk hp kk
theorem gS_ld_root (X : GX p l e R s m args below meth c D A nL cc own Ts) {i : Int32} {k : Nat} (hd : decode cc pc = .ok (.iaload, 1)) (hi : i = nI k) (hk : k < 40) (hp : pc + 1 = pc') (kk : GG p l e R s m args below meth c D A nL ro cs sl Q (wHW D a f na w) pc' lv (.int (ofM f k 4) :: st)) : GG p l e R s m args below meth c D A nL ro cs sl Q (wHW D a f na w) pc lv (.int i :: .ref (a 10) :: st) := gH_ld_Stamps_root X hd hi hk hp kk
theorem gS_st_root (X : GX p l e R s m args below meth c D A nL cc own Ts) {i x : Int32} {k : Nat} (hro : ro = false) (hd : decode cc pc = .ok (.iastore, 1)) (hi : i = nI k) (hk : k < 40) (hp : pc + 1 = pc') (kk : GG p l e R s m args below meth c D A nL ro cs sl Q (wHW D a (up f (127 + 4 + 7 * k) x) na w) pc' lv st) : GG p l e R s m args below meth c D A nL ro cs sl Q (wHW D a f na w) pc lv (.int x :: .int i :: .ref (a 10) :: st) := gH_st_Stamps_root X hro hd hi hk hp kk
theorem gS_ld_owners (X : GX p l e R s m args below meth c D A nL cc own Ts) {i : Int32} {k : Nat} (hd : decode cc pc = .ok (.iaload, 1)) (hi : i = nI k) (hk : k < 12) (hp : pc + 1 = pc') (kk : GG p l e R s m args below meth c D A nL ro cs sl Q (wHW D a f na w) pc' lv (.int (f (4 + k)) :: st)) : GG p l e R s m args below meth c D A nL ro cs sl Q (wHW D a f na w) pc lv (.int i :: .ref (a 1) :: st) := gH_ld_House_owners X hd hi hk hp (by rw [Nat.one_mul]; exact kk)
theorem gS_st_owners (X : GX p l e R s m args below meth c D A nL cc own Ts) {i x : Int32} {k : Nat} (hro : ro = false) (hd : decode cc pc = .ok (.iastore, 1)) (hi : i = nI k) (hk : k < 12) (hp : pc + 1 = pc') (kk : GG p l e R s m args below meth c D A nL ro cs sl Q (wHW D a (up f (4 + k) x) na w) pc' lv st) : GG p l e R s m args below meth c D A nL ro cs sl Q (wHW D a f na w) pc lv (.int x :: .int i :: .ref (a 1) :: st) := gH_st_House_owners X hro hd hi hk hp (by rw [Nat.one_mul]; exact kk)
theorem gS_ld_doors (X : GX p l e R s m args below meth c D A nL cc own Ts) {i : Int32} {k : Nat} (hd : decode cc pc = .ok (.iaload, 1)) (hi : i = nI k) (hk : k < 60) (hp : pc + 1 = pc') (kk : GG p l e R s m args below meth c D A nL ro cs sl Q (wHW D a f na w) pc' lv (.int (f (16 + k)) :: st)) : GG p l e R s m args below meth c D A nL ro cs sl Q (wHW D a f na w) pc lv (.int i :: .ref (a 2) :: st) := gH_ld_House_doors X hd hi hk hp (by rw [Nat.one_mul]; exact kk)
theorem gS_st_doors (X : GX p l e R s m args below meth c D A nL cc own Ts) {i x : Int32} {k : Nat} (hro : ro = false) (hd : decode cc pc = .ok (.iastore, 1)) (hi : i = nI k) (hk : k < 60) (hp : pc + 1 = pc') (kk : GG p l e R s m args below meth c D A nL ro cs sl Q (wHW D a (up f (16 + k) x) na w) pc' lv st) : GG p l e R s m args below meth c D A nL ro cs sl Q (wHW D a f na w) pc lv (.int x :: .int i :: .ref (a 2) :: st) := gH_st_House_doors X hro hd hi hk hp (by rw [Nat.one_mul]; exact kk)
theorem gS_ld_settings (X : GX p l e R s m args below meth c D A nL cc own Ts) {i : Int32} {k : Nat} (hd : decode cc pc = .ok (.iaload, 1)) (hi : i = nI k) (hk : k < 4) (hp : pc + 1 = pc') (kk : GG p l e R s m args below meth c D A nL ro cs sl Q (wHW D a f na w) pc' lv (.int (f k) :: st)) : GG p l e R s m args below meth c D A nL ro cs sl Q (wHW D a f na w) pc lv (.int i :: .ref (a 3) :: st) := gH_ld_House_settings X hd hi hk hp (by rw [Nat.one_mul, Nat.zero_add]; exact kk)
theorem gS_st_settings (X : GX p l e R s m args below meth c D A nL cc own Ts) {i x : Int32} {k : Nat} (hro : ro = false) (hd : decode cc pc = .ok (.iastore, 1)) (hi : i = nI k) (hk : k < 4) (hp : pc + 1 = pc') (kk : GG p l e R s m args below meth c D A nL ro cs sl Q (wHW D a (up f k x) na w) pc' lv st) : GG p l e R s m args below meth c D A nL ro cs sl Q (wHW D a f na w) pc lv (.int x :: .int i :: .ref (a 3) :: st) := gH_st_House_settings X hro hd hi hk hp (by rw [Nat.one_mul, Nat.zero_add]; exact kk)
theorem gS_ld_endings (X : GX p l e R s m args below meth c D A nL cc own Ts) {i : Int32} {k : Nat} (hd : decode cc pc = .ok (.iaload, 1)) (hi : i = nI k) (hk : k < 7) (hp : pc + 1 = pc') (kk : GG p l e R s m args below meth c D A nL ro cs sl Q (wHW D a f na w) pc' lv (.int (f (83 + k)) :: st)) : GG p l e R s m args below meth c D A nL ro cs sl Q (wHW D a f na w) pc lv (.int i :: .ref (a 4) :: st) := gH_ld_House_endings X hd hi hk hp (by rw [Nat.one_mul]; exact kk)
theorem gS_st_endings (X : GX p l e R s m args below meth c D A nL cc own Ts) {i x : Int32} {k : Nat} (hro : ro = false) (hd : decode cc pc = .ok (.iastore, 1)) (hi : i = nI k) (hk : k < 7) (hp : pc + 1 = pc') (kk : GG p l e R s m args below meth c D A nL ro cs sl Q (wHW D a (up f (83 + k) x) na w) pc' lv st) : GG p l e R s m args below meth c D A nL ro cs sl Q (wHW D a f na w) pc lv (.int x :: .int i :: .ref (a 4) :: st) := gH_st_House_endings X hro hd hi hk hp (by rw [Nat.one_mul]; exact kk)
end HROWS2
/-! ===== sets of numbers as masks ===== -/
theorem nI_or {a b : Nat} (ha : a < 2 ^ 32) (hb : b < 2 ^ 32) : nI a ||| nI b = nI (a ||| b) := by
  apply Int32.toBitVec_inj.mp
  rw [Int32.toBitVec_or]
  apply BitVec.eq_of_toNat_eq
  rw [BitVec.toNat_or]
  show (BitVec.ofNat 32 a).toNat ||| (BitVec.ofNat 32 b).toNat = (BitVec.ofNat 32 (a ||| b)).toNat
  rw [BitVec.toNat_ofNat, BitVec.toNat_ofNat, BitVec.toNat_ofNat, Nat.mod_eq_of_lt ha, Nat.mod_eq_of_lt hb, Nat.mod_eq_of_lt (Nat.or_lt_two_pow ha hb)]
theorem nI_1shl : ∀ k, k < 32 → (1 : Int32) <<< (nI k &&& 31) = nI (2 ^ k) := by decide +kernel
theorem lN_1shl {k : Nat} (hk : k < 64) : (1 : Int64) <<< ((nI k).toInt64 &&& 63) = lN (2 ^ k) := by
  have := wb_shl 1 hk
  rw [Nat.one_mul] at this
  exact this
theorem msk_s {P : Nat → Bool} {n : Nat} (h : P n = true) : mskN P n ||| 2 ^ n = mskN P (n + 1) := by rw [mskN, if_pos h]
theorem msk_n {P : Nat → Bool} {n : Nat} (h : P n = false) : mskN P n = mskN P (n + 1) := by rw [mskN, if_neg (by rw [h]; exact Bool.false_ne_true)]
/-- the kept ones' places -/
def kpL (P : Nat → Bool) : Nat → List Nat
  | 0 => []
  | n + 1 => if P n = true then kpL P n else kpL P n ++ [n]
theorem kpL_len (P : Nat → Bool) : ∀ n, (kpL P n).length + cnI P n = n
  | 0 => rfl
  | n + 1 => by
    have := kpL_len P n
    rw [kpL, cnI]
    split
    · omega
    · simp; omega
theorem kpL_lt (P : Nat → Bool) : ∀ (n k : Nat), k ∈ kpL P n → k < n
  | 0, k, h => by simp [kpL] at h
  | n + 1, k, h => by
    rw [kpL] at h
    split at h
    · have := kpL_lt P n k h; omega
    · rcases List.mem_append.mp h with q | q
      · have := kpL_lt P n k q; omega
      · rw [List.mem_singleton.mp q]; omega
theorem kpL_P {P P' : Nat → Bool} : ∀ n, (∀ k, k < n → P k = P' k) → kpL P n = kpL P' n
  | 0, _ => rfl
  | n + 1, h => by rw [kpL, kpL, h n (by omega), kpL_P n (fun k hk => h k (by omega))]
/-- what the reference's wiping leaves, by the kept ones' places -/
theorem wkI_kp (P : Nat → Bool) : ∀ (j : Nat) (f : Nat → Int32) (n c : Nat), j ≤ n →
    (wkI P j f n c).2.1 + cnI P j = n ∧ (wkI P j f n c).2.2 = c + cnI P j ∧ (∀ t k, (kpL P j)[t]? = some k → ∀ w, w < 4 → noteM (wkI P j f n c).1 t w = noteM f k w) ∧
    (∀ t, (kpL P j).length ≤ t → t + cnI P j < n → ∀ w, w < 4 → noteM (wkI P j f n c).1 t w = noteM f (t + cnI P j) w)
  | 0, f, n, c, h => ⟨rfl, rfl, fun t k h => by simp [kpL] at h, fun t h1 h2 w hw => rfl⟩
  | j + 1, f, n, c, hj => by
    have hlen := kpL_len P j
    rw [wkI, kpL, cnI]
    by_cases hp : P j = true
    · rw [if_pos hp, if_pos hp, if_pos hp]
      obtain ⟨h1, h2, h3, h4⟩ := wkI_kp P j (tkF f n j) (n - 1) (c + 1) (by omega)
      refine ⟨by omega, by omega, fun t k hk w hw => ?_, fun t ht1 ht2 w hw => ?_⟩
      · rw [h3 t k hk w hw]
        exact tkF_no (kpL_lt P j k (List.mem_of_getElem? hk)) hw
      · rw [h4 t ht1 (by omega) w hw]
        rw [tkF_eq (by omega) (by omega) hw]
        congr 1
    · rw [if_neg hp, if_neg hp, if_neg hp]
      obtain ⟨h1, h2, h3, h4⟩ := wkI_kp P j f n c (by omega)
      refine ⟨by omega, by omega, fun t k hk w hw => ?_, fun t ht1 ht2 w hw => ?_⟩
      · by_cases hl : t < (kpL P j).length
        · rw [List.getElem?_append_left hl] at hk
          exact h3 t k hk w hw
        · rw [List.getElem?_append_right (by omega)] at hk
          have h5 := (List.getElem?_eq_some_iff.mp hk).1
          have h6 : t = (kpL P j).length := by simp at h5; omega
          subst h6
          simp at hk
          subst hk
          rw [h4 _ (Nat.le_refl _) (by omega) w hw]
          congr 1
      · simp at ht1
        exact h4 t (by omega) ht2 w hw
/-- a house over another row that is the same outside the notes -/
theorem wHW_c {D : DT} {a : Nat → Nat} {f g : Nat → Int32} {na : Nat → Nat → Int32} {w : Nat → Int32} (h : ∀ m, m < 91 ∨ 127 ≤ m → f m = g m) : wHW D a f na w = wHW D a g na w := by
  have e : ∀ n o st, (∀ k, k < n → o + st * k < 91 ∨ 127 ≤ o + st * k) → cl n o st f = cl n o st g := fun n o st h2 => cl_ext (fun k hk => h _ (h2 k hk))
  have b5 : mkB f 5 = mkB g 5 := mkB_c (fun s hs => h _ (by omega))
  have b6 : mkB f 6 = mkB g 6 := mkB_c (fun s hs => h _ (by omega))
  simp only [wHW, wH, b5, b6, e 12 4 1 (by omega), e 60 16 1 (by omega), e 4 0 1 (by omega), e 7 83 1 (by omega), e 40 127 7 (by omega), e 40 128 7 (by omega), e 40 129 7 (by omega), e 40 130 7 (by omega), e 40 131 7 (by omega), h 77 (by omega), h 78 (by omega), h 79 (by omega), h 80 (by omega), h 76 (by omega), h 90 (by omega), h 81 (by omega), h 82 (by omega)]
/-- the board's rows hold the notes -/
def NR (f : Nat → Int32) (na : Nat → Nat → Int32) (n : Nat) : Prop := ∀ k, k < n → ∀ j, j < 4 → na j k = noteM f k j
theorem isIn_b {M k : Nat} (hM : M < 2 ^ 64) (hk : k < 64) : (lg_cmp ((lN M).toUInt64 >>> ((nI k).toInt64.toUInt64 &&& Int64.toUInt64 63)).toInt64 0 = 0) ↔ M / 2 ^ k = 0 := by
  rw [wb_shr hM hk]
  exact lg_0 (Nat.lt_of_le_of_lt (Nat.div_le_self _ _) hM)

