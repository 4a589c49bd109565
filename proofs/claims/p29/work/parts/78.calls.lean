/-- the addresses of a world are among those of another -/
def AD (w wc : va_W) : Prop := ∃ E : List Nat, (w.map Prod.fst).Perm (wc.map Prod.fst ++ E)
theorem AD.rf {w wc : va_W} (h : w.map Prod.fst = wc.map Prod.fst) : AD w wc := ⟨[], by rw [h, List.append_nil]⟩
theorem AD.pm {w wc : va_W} (h : w.Perm wc) : AD w wc := ⟨[], by rw [List.append_nil]; exact h.map _⟩
theorem AD.trans {u v w : va_W} (h1 : AD u v) (h2 : AD v w) : AD u w := by
  obtain ⟨E1, p1⟩ := h1
  obtain ⟨E2, p2⟩ := h2
  refine ⟨E2 ++ E1, p1.trans ?_⟩
  rw [← List.append_assoc]
  exact p2.append_right E1
theorem AD.left {b b' t t' : va_W} (hb : b.map Prod.fst = b'.map Prod.fst) (h : AD t t') : AD (b ++ t) (b' ++ t') := by
  obtain ⟨E, p⟩ := h
  refine ⟨E, ?_⟩
  rw [List.map_append, List.map_append, hb, List.append_assoc]
  exact p.append_left _
theorem perm_lift {α β : Type} (f : α → β) {a m : List β} (h : a.Perm m) : ∀ l : List α, l.map f = a → ∃ l' : List α, l.Perm l' ∧ l'.map f = m := by
  induction h with
  | nil => exact fun l hl => ⟨l, List.Perm.refl _, hl⟩
  | cons x h ih =>
    intro l hl
    cases l with
    | nil => cases hl
    | cons y t =>
      obtain ⟨l', p, e⟩ := ih t (List.cons.inj hl).2
      exact ⟨y :: l', p.cons y, by rw [List.map_cons, (List.cons.inj hl).1, e]⟩
  | swap x y t =>
    intro l hl
    match l, hl with
    | y' :: x' :: t', hl =>
      have h1 := List.cons.inj hl
      have h2 := List.cons.inj h1.2
      exact ⟨x' :: y' :: t', List.Perm.swap .., by rw [List.map_cons, List.map_cons, h2.1, h1.1, h2.2]⟩
  | trans h1 h2 i1 i2 =>
    intro l hl
    obtain ⟨l1, p1, e1⟩ := i1 l hl
    obtain ⟨l2, p2, e2⟩ := i2 l1 e1
    exact ⟨l2, p1.trans p2, e2⟩
theorem AD.split {w wc : va_W} (h : AD w wc) : ∃ w1 w2 : va_W, w.Perm (w1 ++ w2) ∧ w1.map Prod.fst = wc.map Prod.fst := by
  obtain ⟨E, p⟩ := h
  obtain ⟨w', p', e⟩ := perm_lift Prod.fst p w rfl
  refine ⟨w'.take wc.length, w'.drop wc.length, by rw [List.take_append_drop]; exact p', ?_⟩
  rw [List.map_take, e]
  have : wc.length = (wc.map Prod.fst).length := by rw [List.length_map]
  rw [this, List.take_left]
theorem wa_map_at (w0 wc : va_W) : (List.range' w0.length wc.length).map (fun i => (w0 ++ wc)[i]?) = wc.map some := by
  apply List.ext_getElem?
  intro k
  by_cases h : k < wc.length
  · rw [List.getElem?_map, List.getElem?_map, List.getElem?_range' h, List.getElem?_eq_getElem h]
    show some ((w0 ++ wc)[w0.length + 1 * k]?) = some (some wc[k])
    rw [Nat.one_mul, List.getElem?_append_right (by omega), Nat.add_sub_cancel_left, List.getElem?_eq_getElem h]
  · rw [List.getElem?_eq_none (by rw [List.length_map, List.length_range']; omega), List.getElem?_eq_none (by rw [List.length_map]; omega)]
theorem wput_end {w0 wc w1 : va_W} (h : wc.length = w1.length) : wput (w0 ++ wc) (List.range' w0.length wc.length) w1 = w0 ++ w1 := by
  have := wput_pre w1 wc w0 [] h
  rw [List.append_nil, List.append_nil] at this
  exact this
section GCALLS
variable {p : Program} {l : Launch} {e : Env} {R : Room} {s : State} {m : MethodId} {args : Array Value} {below : List Frame} {meth : Method} {c : Code} {D : DT} {A : Nat → Prop} {nL : Nat} {ro : Bool} {cs sl : Nat} {Q : State → Prop} {cc : ByteArray} {own : String} {Ts : List Cond} {ws : va_W} {lv : List (Nat × Value)} {st : List Value} {pc pc' : Nat}
theorem g_callVPq (X : GX p l e R s m args below meth c D A nL cc own Ts) {y : MethodName} {wsy wsy' : List Cond} {bytes : ByteArray} {maxL fr lo n index : Nat} {wc : va_W} {As rest : List Value} {ret : Option FieldType} {b : Nat} {C : String} {T : u_T} {N ci : Nat} {fs : List Value} {mc ms : Nat} {post : Option Value → va_W → Prop} (hA : ∀ q, s.heap.size ≤ q → A q) (hro0 : ro = false) (hM : MW l y wsy fr lo mc ms D (.ref b :: As) wc post) (hG : GoodIn Ts (wsV own index C y wsy)) (hw : wsy = Cond.code y bytes maxL ret :: wsy') (hdsc : y.cls = C ∧ y.cls ≠ "java/lang/invoke/MethodHandle" ∧ y.cls ≠ "java/lang/invoke/VarHandle" ∧ (parseMethodDescriptor y.desc).map (fun d => d.parameters.length) = some n) (hR : fr + 1 ≤ R.frames ∧ 8 + (maxL + 11) + lo ≤ R.locals) (qr : Nat) (hrec : wc[qr]? = some (b, .inr (ci, fs))) (hcl : vwCl[ci]? = some (C, T, N)) (isC : List Nat) (hC : isC.map (fun i => ws[i]?) = wc.map some) (hnd : va_nd isC = true) (hn : As.length = n) (hst : st = As.reverse ++ .ref b :: rest) (hcat : (rest.map fun v => v.category).sum ≤ 8) (hd : decode cc pc = .ok (.invokevirtual index, 3)) (hroom : cs + mc ≤ R.cells ∧ sl + ms ≤ R.slots) (hp : pc + 3 = pc') (kk : ∀ (v : Option Value) (w : va_W), post v w → ∃ w1 w2 : va_W, w.Perm (w1 ++ w2) ∧ w1.map Prod.fst = wc.map Prod.fst ∧ GG p l e R s m args below meth c D A nL ro (cs + mc) (sl + ms) Q (wput ws isC w1 ++ w2) pc' lv (v.toList ++ rest)) : GG p l e R s m args below meth c D A nL ro cs sl Q ws pc lv st := by
  subst hp; subst hst
  obtain ⟨hx, hb, hml, hown, hts, hlk, hE⟩ := X
  intro H locs ls hro hP hD hS hl
  have hPc : va_P D.1 vwCl wc H := by
    intro k q hk
    have h3 : (isC.map (fun i => ws[i]?))[k]? = some (some q) := by rw [hC, List.getElem?_map, hk]; rfl
    rw [List.getElem?_map] at h3
    cases hi : isC[k]? with
    | none => rw [hi] at h3; cases h3
    | some i => rw [hi] at h3; exact hP i q (Option.some.inj h3)
  have hDc : va_D (va_A wc H.size) wc := (hD.sub isC hnd hC).self
  have hFc := va_free (wc := wc) hD hS hA isC hC
  have hr : va_Run p l e R s m args below meth c H locs cs sl mc ms (F0 m pc ls (As.reverse ++ .ref b :: rest)) rest ((wrQ D wc H.size post) ((Value.ref b :: As)).toArray) (va_A wc H.size) := va_runV ⟨hx, hb, hml, hown, hts⟩ (hM H.size) (cwV n hts hG hw rfl rfl hdsc hR) ⟨wrP_blind, va_recv hE.1 hPc hcl hrec, fun U hU hW => ⟨rfl, by rw [hU], by rw [hU]; exact hPc, hDc, hE.call hS (fun q h => hFc q h) hU hW⟩⟩ rfl hn hl.1 rfl (lv_room hcat) hd hroom
  intro T hT X
  obtain ⟨v, st₀, t, T', L, e0, X', hL, e1, e2, ⟨⟨v', w, hv, hp, hPw, hDw⟩, hz, hk⟩, stp⟩ := hr T hT X
  cases hv
  rw [e0] at hz hk
  have hS1 : va_S A s.heap t.heap (locs ++ L) := ⟨Nat.le_trans hS.1 hz, fun q h1 h2 => by rw [hk q (Nat.lt_of_lt_of_le h1 hS.1) (fun z => h2 (hFc q z))]; exact hS.2.1 q h1 h2, fun q hq => by
      rcases List.mem_append.mp hq with h | h
      · exact hS.2.2 q h
      · exact hFc _ (hL q h)⟩
  obtain ⟨w1, w2, hw12, hw0, kk⟩ := kk v w hp
  have hPw := va_P_perm hw12 hPw
  have hDw := va_D_perm hw12 hDw
  have hP1 : va_P D.1 vwCl w1 t.heap := fun k q h => hPw k q (by rw [List.getElem?_append_left (List.getElem?_eq_some_iff.mp h).1]; exact h)
  have hP2 : va_P D.1 vwCl w2 t.heap := fun k q h => hPw (w1.length + k) q (by rw [List.getElem?_append_right (by omega)]; simpa using h)
  have hD2 : va_D (va_A wc H.size) w2 := ⟨fun i j x y hi hj hxy => by
    have := hDw.1 (w1.length + i) (w1.length + j) x y (by rw [List.getElem?_append_right (by omega)]; simpa using hi) (by rw [List.getElem?_append_right (by omega)]; simpa using hj) hxy
    omega, fun k q h => hDw.2 (w1.length + k) q (by rw [List.getElem?_append_right (by omega)]; simpa using h)⟩
  have hDp := wput_D hC hw0 hD
  have hap : ∀ (i j : Nat) (x y : Nat × va_E), (wput ws isC w1)[i]? = some x → w2[j]? = some y → x.1 ≠ y.1 := by
    intro i j x y hi hj hxy
    have hj' : (w1 ++ w2)[w1.length + j]? = some y := by rw [List.getElem?_append_right (by omega)]; simpa using hj
    obtain ⟨ex, hex⟩ := (wput_old (A := A) hC hw0).2 i x hi
    rcases hDw.2 _ y hj' with ⟨k, e5, h5⟩ | h5
    · -- y's address is an old one of wc: then it is in w1
      have h6 : (w1.map Prod.fst)[k]? = some y.1 := by rw [hw0, List.getElem?_map, h5]; rfl
      rw [List.getElem?_map] at h6
      cases h7 : w1[k]? with
      | none => rw [h7] at h6; cases h6
      | some z =>
        rw [h7] at h6
        have h8 : (w1 ++ w2)[k]? = some z := by rw [List.getElem?_append_left (List.getElem?_eq_some_iff.mp h7).1]; exact h7
        have h9 := hDw.1 k (w1.length + j) z y h8 hj' (Option.some.inj h6)
        have h10 := (List.getElem?_eq_some_iff.mp h7).1
        omega
    · have h6 := (hP i _ hex).lt
      simp only [hxy] at h6
      omega
  obtain ⟨t2, a1, b1⟩ := kk t.heap (locs ++ L) ls (fun h => by cases hro0.symm.trans h) (va_P.app (wput_join hP hD isC hC hw0 hk hP1) hP2) (va_D.app hDp (hD2.weaken (fun k q _ h => hFc q.1 h)) hap) hS1 hl T' e1 X'
  exact ⟨t2, stp t2 a1, b1⟩
theorem g_callVX (X : GX p l e R s m args below meth c D A nL cc own Ts) {y : MethodName} {wsy wsy' : List Cond} {bytes : ByteArray} {maxL fr lo n index : Nat} {w0 wc : va_W} {As rest : List Value} {ret : Option FieldType} {b : Nat} {C : String} {T : u_T} {N ci : Nat} {fs : List Value} {mc ms : Nat} {post : Option Value → va_W → Prop} (hA : ∀ q, s.heap.size ≤ q → A q) (hro0 : ro = false) (hM : MW l y wsy fr lo mc ms D (.ref b :: As) wc post) (hG : GoodIn Ts (wsV own index C y wsy)) (hw : wsy = Cond.code y bytes maxL ret :: wsy') (hdsc : y.cls = C ∧ y.cls ≠ "java/lang/invoke/MethodHandle" ∧ y.cls ≠ "java/lang/invoke/VarHandle" ∧ (parseMethodDescriptor y.desc).map (fun d => d.parameters.length) = some n) (hR : fr + 1 ≤ R.frames ∧ 8 + (maxL + 11) + lo ≤ R.locals) (qr : Nat) (hrec : wc[qr]? = some (b, .inr (ci, fs))) (hcl : vwCl[ci]? = some (C, T, N)) (hws : ws = w0 ++ wc) (hn : As.length = n) (hst : st = As.reverse ++ .ref b :: rest) (hcat : (rest.map fun v => v.category).sum ≤ 8) (hd : decode cc pc = .ok (.invokevirtual index, 3)) (hroom : cs + mc ≤ R.cells ∧ sl + ms ≤ R.slots) (hp : pc + 3 = pc') (kk : ∀ (v : Option Value) (w : va_W), post v w → AD w wc ∧ GG p l e R s m args below meth c D A nL ro (cs + mc) (sl + ms) Q (w0 ++ w) pc' lv (v.toList ++ rest)) : GG p l e R s m args below meth c D A nL ro cs sl Q ws pc lv st := by
  subst hws
  refine g_callVPq X hA hro0 hM hG hw hdsc hR qr hrec hcl (List.range' w0.length wc.length) (wa_map_at w0 wc) (wa_nd _ List.nodup_range') hn hst hcat hd hroom hp (fun v w hv => ?_)
  obtain ⟨hAD, hk⟩ := kk v w hv
  obtain ⟨w1, w2, h1, h2⟩ := hAD.split
  refine ⟨w1, w2, h1, h2, ?_⟩
  have hl : wc.length = w1.length := by have := congrArg List.length h2; simpa using this.symm
  rw [wput_end hl]
  refine g_perm (ws' := w0 ++ w) ?_ hk
  rw [List.append_assoc]
  exact List.Perm.append_left _ h1.symm
theorem g_callVXs (X : GX p l e R s m args below meth c D A nL cc own Ts) {y : MethodName} {wsy wsy' : List Cond} {bytes : ByteArray} {maxL fr lo n index : Nat} {As rest : List Value} {ret : Option FieldType} {b : Nat} {C : String} {T : u_T} {N ci : Nat} {fs : List Value} {mc ms : Nat} {post : Option Value → va_W → Prop} (hA : ∀ q, s.heap.size ≤ q → A q) (hro0 : ro = false) (hM : MW l y wsy fr lo mc ms D (.ref b :: As) ws post) (hG : GoodIn Ts (wsV own index C y wsy)) (hw : wsy = Cond.code y bytes maxL ret :: wsy') (hdsc : y.cls = C ∧ y.cls ≠ "java/lang/invoke/MethodHandle" ∧ y.cls ≠ "java/lang/invoke/VarHandle" ∧ (parseMethodDescriptor y.desc).map (fun d => d.parameters.length) = some n) (hR : fr + 1 ≤ R.frames ∧ 8 + (maxL + 11) + lo ≤ R.locals) (qr : Nat) (hrec : ws[qr]? = some (b, .inr (ci, fs))) (hcl : vwCl[ci]? = some (C, T, N)) (hn : As.length = n) (hst : st = As.reverse ++ .ref b :: rest) (hcat : (rest.map fun v => v.category).sum ≤ 8) (hd : decode cc pc = .ok (.invokevirtual index, 3)) (hroom : cs + mc ≤ R.cells ∧ sl + ms ≤ R.slots) (hp : pc + 3 = pc') (kk : ∀ (v : Option Value) (w : va_W), post v w → AD w ws ∧ GG p l e R s m args below meth c D A nL ro (cs + mc) (sl + ms) Q w pc' lv (v.toList ++ rest)) : GG p l e R s m args below meth c D A nL ro cs sl Q ws pc lv st := g_callVX (w0 := []) X hA hro0 hM hG hw hdsc hR qr hrec hcl rfl hn hst hcat hd hroom hp kk
end GCALLS
theorem AD_wB {D : DT} {a : Nat → Nat} {f f' : Nat → Int32} {na na' : Nat → Nat → Int32} {w td vl w' td' vl' : Nat → Int32} {L pt fl L' pt' fl' : Nat} {kd kd' : Int32} {kp kp' : Nat} {fq fs fq' fs' : Nat → Option Nat} {tl tl' : va_W} (h : AD tl' tl) : AD (wB D a f' na' w' td' vl' L' pt' fl' kd' kp' fq' fs' tl') (wB D a f na w td vl L pt fl kd kp fq fs tl) := AD.left rfl h
theorem AD_q {D : DT} {pq ps : Nat → Option HH} {k : Nat} {h : HH} (hk : k < 7) (hp : pq k = none ∨ ∃ h' : HH, pq k = some h' ∧ h'.1 = h.1) : AD (tlW D (up pq k (some h)) ps) (tlW D pq ps) := by
  have p1 := tl_q (D := D) (ps := ps) hk (up_s pq k (some h))
  rw [up_up] at p1
  rcases hp with e | ⟨h', e, ea⟩
  · rw [tl_none e] at p1
    refine ⟨(wH D h.1 h.2.1 h.2.2).map Prod.fst, (p1.map _).trans ?_⟩
    rw [List.map_append]
    exact List.perm_append_comm
  · have p2 := tl_q (D := D) (ps := ps) hk e
    refine AD.trans (AD.pm p1) (AD.trans (AD.left ?_ (AD.rf rfl)) (AD.pm p2.symm))
    obtain ⟨b, g, nb⟩ := h
    obtain ⟨b', g', nb'⟩ := h'
    cases ea
    rfl
theorem AD_s {D : DT} {pq ps : Nat → Option HH} {k : Nat} {h : HH} (hk : k < 2) (hp : ps k = none ∨ ∃ h' : HH, ps k = some h' ∧ h'.1 = h.1) : AD (tlW D pq (up ps k (some h))) (tlW D pq ps) := by
  have p1 := tl_s (D := D) (pq := pq) hk (up_s ps k (some h))
  rw [up_up] at p1
  rcases hp with e | ⟨h', e, ea⟩
  · rw [tl_noneS e] at p1
    refine ⟨(wH D h.1 h.2.1 h.2.2).map Prod.fst, (p1.map _).trans ?_⟩
    rw [List.map_append]
    exact List.perm_append_comm
  · have p2 := tl_s (D := D) (pq := pq) hk e
    refine AD.trans (AD.pm p1) (AD.trans (AD.left ?_ (AD.rf rfl)) (AD.pm p2.symm))
    obtain ⟨b, g, nb⟩ := h
    obtain ⟨b', g', nb'⟩ := h'
    cases ea
    rfl
theorem AD_kQ {D : DT} {pq ps : Nat → Option HH} {kp : Nat} : AD (tlW D (kQ kp pq) ps) (tlW D pq ps) := by
  unfold kQ
  split
  · exact AD.rf rfl
  · exact AD.pm tl_rot.symm
theorem AD_kV {D : DT} {pq ps : Nat → Option HH} {kp : Nat} {x : Int32} : AD (tlW D (kV x kp pq) ps) (tlW D pq ps) := by
  unfold kV
  split
  · exact AD_kQ
  · exact AD.rf rfl
