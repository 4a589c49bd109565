/-! the facts about the machine that every method of ours is given besides its world -/
abbrev DT : Type := va_G × ClassId × ClassId × ClassId × ClassId × (Nat → Nat) × (Nat → Nat)
def tyD (D : DT) : List (ClassId × FieldType) := [(D.2.1, .int), (D.2.1, .int), (D.2.2.2.1, .char), (D.2.2.2.2.1, .object RX2)]
def nwL : List Cond := [
  .methodLinkNest RX2 34 yX4_init "VisaPages", .methodLinkNest RX2 41 yX0_init "VisaPages", .methodLinkNest RX6 18 yX5_init "VisaPages", .methodLinkNest RX6 25 yX3_init "VisaPages", .methodLinkNest RX6 32 yX1_init "VisaPages",
  .methodLinkNest RX0 48 yX6_isIn "VisaPages", .methodLinkNest RX2 88 yX6_isPage "VisaPages", .methodLinkNest RX2 92 yX6_isGuest "VisaPages", .methodLinkNest RX2 117 yX6_isIn "VisaPages", .methodLinkNest RX2 134 yX6_isDoor "VisaPages", .methodLinkNest RX2 103 yX6_areRights "VisaPages", .methodLinkNest RX2 146 yX6_isNeed "VisaPages", .methodLinkNest RX4 52 yX6_isIn "VisaPages", .methodLinkNest RX5 49 yX6_isIn "VisaPages",
  .fieldLinkNest RX2 18 "VisaPages" "FIRST_SETTINGS" "[I" "VisaPages", .fieldLinkNest RX2 78 "VisaPages" "LEAST" "[I" "VisaPages", .fieldLinkNest RX2 81 "VisaPages" "MOST" "[I" "VisaPages"]
def fsFirst : Nat → Int32 := fun j => match j with | 0 => 4 | 1 => 1 | 2 => 2 | _ => 0
def fsLeast : Nat → Int32 := fun j => match j with | 0 => 1 | _ => 0
def fsMost : Nat → Int32 := fun j => match j with | 0 => 8 | 1 => 1 | 2 => 2 | _ => 1
def txS : Nat → String := fun i => match i with | 0 => "n=G" | 1 => "g>g:n*f" | 2 => "n>g*f" | 3 => "n" | 4 => "g.d=N" | 5 => "g.da" | _ => ""
def lenS : List Nat := [3, 7, 5, 1, 5, 4, 0]
def bytS : List (List Int32) := [[110, 61, 71], [103, 62, 103, 58, 110, 42, 102], [110, 62, 103, 42, 102], [110], [103, 46, 100, 61, 78], [103, 46, 100, 97], []]
def exS (D : DT) (t : Nat) (H : Heap) : Prop := ∃ cell : Cell, H[t]? = some cell ∧ cell.cls = D.2.1 ∧ cell.slots.size = 4
theorem exS.kept {D : DT} {t : Nat} {f : Nat → Value} {A : Nat → Prop} {U : State} {H H1 : Heap} (h : exS D t H) (hT : va_T .int t 4 f A U H) (hq : ∀ a : Nat, a < H.size → ¬ A a → H1[a]? = H[a]?) : exS D t H1 := by
  obtain ⟨cell, h1, h2, h3⟩ := h
  obtain ⟨-, -, -, -, -, -, -, hA⟩ := hT
  exact ⟨cell, by rw [hq t (Array.getElem?_eq_some_iff.mp h1).1 hA]; exact h1, h2, h3⟩
def EX (D : DT) (A : Nat → Prop) (U : State) (H : Heap) : Prop :=
  va_K D.1 vwCl (tyD D) U ∧ (∀ w ∈ nwL, va_Nw w U) ∧ (va_Nw (.castable "[I" "java/lang/Cloneable") U ∧ va_AO RX2 U) ∧
  (∃ t : Nat, va_Z "VisaPages" "FIRST_SETTINGS" "[I" (.ref t) A U H ∧ va_T .int t 4 (fun j => .int (fsFirst j)) A U H ∧ exS D t H) ∧
  (∃ t : Nat, va_Z "VisaPages" "LEAST" "[I" (.ref t) A U H ∧ va_T .int t 4 (fun j => .int (fsLeast j)) A U H) ∧
  (∃ t : Nat, va_Z "VisaPages" "MOST" "[I" (.ref t) A U H ∧ va_T .int t 4 (fun j => .int (fsMost j)) A U H) ∧
  va_Z "java/lang/String" "COMPACT_STRINGS" "Z" (.int 1) A U H ∧ va_Zq "jdk/internal/util/Preconditions" "SIOOBE_FORMATTER" "Ljava/util/function/BiFunction;" A U H ∧
  vk_S 7 lenS bytS D.2.2.2.2.2.1 D.2.2.2.2.2.2 A U H ∧ ∀ i : Nat, i < 7 → vk_R RX3 (73 + 2 * i) (txS i) (D.2.2.2.2.2.1 i) U
theorem nwL_warm {s U : State} (hW : s.WarmedH U.vm) (h : ∀ w ∈ nwL, va_Nw w s) : ∀ w ∈ nwL, va_Nw w U := by
  intro w hw
  have h1 := h w hw
  simp only [nwL, List.mem_cons, List.not_mem_nil, or_false] at hw
  rcases hw with rfl | rfl | rfl | rfl | rfl | rfl | rfl | rfl | rfl | rfl | rfl | rfl | rfl | rfl | rfl | rfl | rfl
  all_goals first | exact va_Nw.warmM hW h1 | exact va_Nw.warmF hW h1
theorem nwL_same {s U : State} (hv : s.vm = U.vm) (h : ∀ w ∈ nwL, va_Nw w s) : ∀ w ∈ nwL, va_Nw w U := by
  intro w hw
  have h1 := h w hw
  simp only [nwL, List.mem_cons, List.not_mem_nil, or_false] at hw
  rcases hw with rfl | rfl | rfl | rfl | rfl | rfl | rfl | rfl | rfl | rfl | rfl | rfl | rfl | rfl | rfl | rfl | rfl
  all_goals exact va_Nw.same rfl hv h1
/-- at a callee's start -/
theorem EX.call {D : DT} {A B : Nat → Prop} {s U : State} {H : Heap} {locs : List Loc} (h : EX D A s s.heap) (hS : va_S A s.heap H locs) (hAB : ∀ q, B q → A q) (hU : U.heap = H) (hW : s.WarmedH U.vm) : EX D B U U.heap := by
  obtain ⟨h1, h2, h3, ⟨t0, a0, b0, d0⟩, ⟨t1, a1, b1⟩, ⟨t2, a2, b2⟩, h7, h8, h9, h10⟩ := h
  have hv := hW.alike
  rw [hU]
  exact ⟨va_K.moved hv h1, nwL_warm hW h2, ⟨va_Nw.warmC hW h3.1, va_AO.moved hv h3.2⟩, ⟨t0, ((va_Z.moved hv a0).kept hS.2.1).narrow hAB, ((va_T.moved hv b0).kept hS.2.1).narrow hAB, d0.kept b0 hS.2.1⟩, ⟨t1, ((va_Z.moved hv a1).kept hS.2.1).narrow hAB, ((va_T.moved hv b1).kept hS.2.1).narrow hAB⟩, ⟨t2, ((va_Z.moved hv a2).kept hS.2.1).narrow hAB, ((va_T.moved hv b2).kept hS.2.1).narrow hAB⟩,
    ((va_Z.moved hv h7).kept hS.2.1).narrow hAB, ((va_Zq.moved hv h8).kept hS.2.1).narrow hAB, ((vk_S.moved hv h9).kept hS.2.1).narrow hAB, fun i hi => vk_R.warm hW (h10 i hi)⟩
theorem EX.same {D : DT} {A : Nat → Prop} {s U : State} (h : EX D A s s.heap) (hv : U.vm = s.vm) (hh : U.heap = s.heap) : EX D A U U.heap := by
  obtain ⟨h1, h2, h3, ⟨t0, a0, b0, d0⟩, ⟨t1, a1, b1⟩, ⟨t2, a2, b2⟩, h7, h8, h9, h10⟩ := h
  have hv' : s.vm.Alike U.vm := by rw [hv]; exact Vm.Alike.refl _
  rw [hh]
  exact ⟨va_K.moved hv' h1, nwL_same hv.symm h2, ⟨va_Nw.same rfl hv.symm h3.1, va_AO.moved hv' h3.2⟩, ⟨t0, va_Z.moved hv' a0, va_T.moved hv' b0, d0⟩, ⟨t1, va_Z.moved hv' a1, va_T.moved hv' b1⟩, ⟨t2, va_Z.moved hv' a2, va_T.moved hv' b2⟩,
    va_Z.moved hv' h7, va_Zq.moved hv' h8, vk_S.moved hv' h9, fun i hi => vk_R.same hv (h10 i hi)⟩
/-! contracts: a method that only reads; a method that writes its world, and may make cells -/
def wRoom (fr lo mc ms : Nat) : Room := { frames := fr, cells := mc, slots := ms, locals := lo }
def roQ (post : Option Value → Prop) : Array Value → State → Outcome → State → Prop := fun _ st oc t => ∃ v : Option Value, oc = .returned v ∧ post v ∧ t.heap = st.heap
def roP (D : DT) (A : Nat → Prop) (av : List Value) (wc : va_W) : Array Value → State → Prop := va_Pc av (fun U => va_P D.1 vwCl wc U.heap ∧ va_D A wc ∧ EX D A U U.heap)
def MR (l : Launch) (y : MethodName) (wsy : List Cond) (fr lo : Nat) (D : DT) (av : List Value) (wc : va_W) (post : Option Value → Prop) : Prop :=
  ∀ A : Nat → Prop, Met l y wsy (wRoom fr lo 0 0) (roP D A av wc) (roQ post) 0 0 (fun _ => False)
def wrQ (D : DT) (wc : va_W) (sz : Nat) (post : Option Value → va_W → Prop) : Array Value → State → Outcome → State → Prop := fun _ st oc t => (∃ (v : Option Value) (w : va_W), oc = .returned v ∧ post v w ∧ va_P D.1 vwCl w t.heap ∧ va_D (va_A wc sz) w) ∧ va_F (va_A wc sz) st t
def wrP (D : DT) (sz : Nat) (av : List Value) (wc : va_W) : Array Value → State → Prop := va_Pc av (fun U => U.heap.size = sz ∧ va_P D.1 vwCl wc U.heap ∧ va_D (va_A wc sz) wc ∧ EX D (va_A wc sz) U U.heap)
def MW (l : Launch) (y : MethodName) (wsy : List Cond) (fr lo mc ms : Nat) (D : DT) (av : List Value) (wc : va_W) (post : Option Value → va_W → Prop) : Prop :=
  ∀ sz : Nat, Met l y wsy (wRoom fr lo mc ms) (wrP D sz av wc) (wrQ D wc sz post) mc ms (va_A wc sz)
theorem roP_blind {D : DT} {A : Nat → Prop} {av : List Value} {wc : va_W} : FrameBlind (roP D A av wc) := fun a U g mk h => ⟨h.1, h.2.1, h.2.2.1, h.2.2.2.same rfl rfl⟩
theorem wrP_blind {D : DT} {sz : Nat} {av : List Value} {wc : va_W} : FrameBlind (wrP D sz av wc) := fun a U g mk h => ⟨h.1, h.2.1, h.2.2.1, h.2.2.2.1, h.2.2.2.2.same rfl rfl⟩
/-- a world with some of its cells replaced -/
def wput : va_W → List Nat → va_W → va_W
  | ws, [], _ => ws
  | ws, _ :: _, [] => ws
  | ws, i :: is, q :: w => wput (ws.set i q) is w
theorem wput_get : ∀ (is : List Nat) (w ws : va_W), is.length = w.length → ∀ (k : Nat) (q : Nat × va_E), (wput ws is w)[k]? = some q → (∃ j : Nat, is[j]? = some k ∧ w[j]? = some q) ∨ (k ∉ is ∧ ws[k]? = some q)
  | [], w, ws, _, k, q, h => Or.inr ⟨List.not_mem_nil, by rw [wput] at h; exact h⟩
  | i :: is, [], ws, hl, k, q, h => by simp at hl
  | i :: is, x :: w, ws, hl, k, q, h => by
    have hl' : is.length = w.length := by simpa using hl
    rcases wput_get is w (ws.set i x) hl' k q h with ⟨j, h1, h2⟩ | ⟨h1, h2⟩
    · exact Or.inl ⟨j + 1, by simpa using h1, by simpa using h2⟩
    · by_cases hk : k = i
      · subst hk
        have hlt : k < ws.length := by
          have := (List.getElem?_eq_some_iff.mp h2).1
          simpa using this
        rw [List.getElem?_set_self hlt] at h2
        exact Or.inl ⟨0, rfl, h2⟩
      · rw [List.getElem?_set_ne (Ne.symm hk)] at h2
        exact Or.inr ⟨fun z => (List.mem_cons.mp z).elim hk h1, h2⟩
theorem wput_old {A : Nat → Prop} {is : List Nat} {ws wc w : va_W} (hC : is.map (fun i => ws[i]?) = wc.map some) (hw : w.map Prod.fst = wc.map Prod.fst) : is.length = w.length ∧ ∀ (k : Nat) (q : Nat × va_E), (wput ws is w)[k]? = some q → ∃ e : va_E, ws[k]? = some (q.1, e) := by
  have hl : is.length = w.length := by
    have h1 := congrArg List.length hC
    have h2 := congrArg List.length hw
    simp at h1 h2
    omega
  refine ⟨hl, fun k q h => ?_⟩
  rcases wput_get is w ws hl k q h with ⟨j, h1, h2⟩ | ⟨-, h2⟩
  · have h3 : (is.map (fun i => ws[i]?))[j]? = some (ws[k]?) := by rw [List.getElem?_map, h1]; rfl
    rw [hC, List.getElem?_map] at h3
    have h4 : (w.map Prod.fst)[j]? = some q.1 := by rw [List.getElem?_map, h2]; rfl
    rw [hw, List.getElem?_map] at h4
    cases hwc : wc[j]? with
    | none => rw [hwc] at h3; cases h3
    | some x =>
      rw [hwc] at h3 h4
      have e3 := Option.some.inj h3
      have e4 := Option.some.inj h4
      exact ⟨x.2, by rw [← e3, ← e4]⟩
  · exact ⟨q.2, h2⟩
theorem wput_D {A : Nat → Prop} {is : List Nat} {ws wc w : va_W} (hC : is.map (fun i => ws[i]?) = wc.map some) (hw : w.map Prod.fst = wc.map Prod.fst) (hD : va_D A ws) : va_D A (wput ws is w) := by
  have key := (wput_old (A := A) hC hw).2
  refine ⟨fun i j x y hi hj hxy => ?_, fun k q hk => ?_⟩
  · obtain ⟨e1, h1⟩ := key i x hi
    obtain ⟨e2, h2⟩ := key j y hj
    exact hD.1 i j _ _ h1 h2 hxy
  · obtain ⟨e1, h1⟩ := key k q hk
    exact hD.2 k (q.1, e1) h1
/-- behind a call that made nothing: the callee's cells anew, the others as they were -/
theorem wput_join {A0 : Nat → Prop} {D : va_G} {cl : List vw_C} {ws wc w : va_W} {H H1 : Heap} (hP : va_P D cl ws H) (hD : va_D A0 ws) (is : List Nat) (hC : is.map (fun i => ws[i]?) = wc.map some) (hw : w.map Prod.fst = wc.map Prod.fst) (hk : ∀ q : Nat, q < H.size → ¬ va_A wc H.size q → H1[q]? = H[q]?) (hP1 : va_P D cl w H1) : va_P D cl (wput ws is w) H1 := by
  intro k q h
  have hl := (wput_old (A := A0) hC hw).1
  rcases wput_get is w ws hl k q h with ⟨j, h1, h2⟩ | ⟨h1, h2⟩
  · exact hP1 j q h2
  · have hlt := (hP k q h2).lt
    refine (hP k q h2).kept (hk q.1 hlt (fun z => ?_))
    rcases z with ⟨j, e, z⟩ | z
    · have h3 : (is.map (fun i => ws[i]?))[j]? = some (some (q.1, e)) := by rw [hC, List.getElem?_map, z]; rfl
      rw [List.getElem?_map] at h3
      cases hi : is[j]? with
      | none => rw [hi] at h3; cases h3
      | some i =>
        rw [hi] at h3
        have h4 : ws[i]? = some (q.1, e) := Option.some.inj h3
        have e5 := hD.1 k i q (q.1, e) h2 h4 rfl
        subst e5
        exact h1 (List.mem_of_getElem? hi)
    · omega

/-- a walk from here: over every heap that holds the world (a method that only reads: the heap that it began with) -/
def GG (p : Program) (l : Launch) (e : Env) (R : Room) (s : State) (m : MethodId) (args : Array Value) (below : List Frame) (meth : Method) (c : Code) (D : DT) (A : Nat → Prop) (nL : Nat) (ro : Bool) (cs sl : Nat) (Q : State → Prop) (ws : va_W) (pc : Nat) (lv : List (Nat × Value)) (st : List Value) : Prop :=
  ∀ (H : Heap) (locs : List Loc) (ls : Array Slot), (ro = true → H = s.heap ∧ locs = []) → va_P D.1 vwCl ws H → va_D A ws → va_S A s.heap H locs → lv_has ls nL lv → W p l e R s m args below meth c H locs cs sl Q (F0 m pc ls st)
def GX (p : Program) (l : Launch) (e : Env) (R : Room) (s : State) (m : MethodId) (args : Array Value) (below : List Frame) (meth : Method) (c : Code) (D : DT) (A : Nat → Prop) (nL : Nat) (cc : ByteArray) (own : String) (Ts : List Cond) : Prop :=
  p.tables.exec = Jvm.exec ∧ c.code = cc ∧ c.maxLocals = nL ∧ s.vm.findClass own = some m.cls ∧ (∀ w ∈ Ts, w.before args s = true) ∧ meth.locks = false ∧ EX D A s s.heap
section GROWS
variable {p : Program} {l : Launch} {e : Env} {R : Room} {s : State} {m : MethodId} {args : Array Value} {below : List Frame} {meth : Method} {c : Code} {D : DT} {A : Nat → Prop} {nL : Nat} {ro : Bool} {cs sl : Nat} {Q : State → Prop} {cc : ByteArray} {own : String} {Ts : List Cond} {ws : va_W} {lv : List (Nat × Value)} {st : List Value} {pc pc' : Nat}
theorem g_iconst (X : GX p l e R s m args below meth c D A nL cc own Ts) {n : Int} {v : Int32} (hd : decode cc pc = .ok (.iconst n, 1)) (hv : Int32.ofInt n = v) (hp : pc + 1 = pc') (kk : GG p l e R s m args below meth c D A nL ro cs sl Q ws pc' lv (.int v :: st)) : GG p l e R s m args below meth c D A nL ro cs sl Q ws pc lv st := by
  subst hp
  obtain ⟨hx, hb, hml, hown, hts, hlk, hE⟩ := X
  intro H locs ls hro hP hD hS hl
  exact lv_iconst hx hb hd hv (kk H locs ls hro hP hD hS hl)
theorem g_bipush (X : GX p l e R s m args below meth c D A nL cc own Ts) {n : Int} {v : Int32} (hd : decode cc pc = .ok (.bipush n, 2)) (hv : (Int8.ofInt n).toInt32 = v) (hp : pc + 2 = pc') (kk : GG p l e R s m args below meth c D A nL ro cs sl Q ws pc' lv (.int v :: st)) : GG p l e R s m args below meth c D A nL ro cs sl Q ws pc lv st := by
  subst hp
  obtain ⟨hx, hb, hml, hown, hts, hlk, hE⟩ := X
  intro H locs ls hro hP hD hS hl
  exact lv_bipush hx hb hd hv (kk H locs ls hro hP hD hS hl)
theorem g_sipush (X : GX p l e R s m args below meth c D A nL cc own Ts) {n : Int} {v : Int32} (hd : decode cc pc = .ok (.sipush n, 3)) (hv : (Int16.ofInt n).toInt32 = v) (hp : pc + 3 = pc') (kk : GG p l e R s m args below meth c D A nL ro cs sl Q ws pc' lv (.int v :: st)) : GG p l e R s m args below meth c D A nL ro cs sl Q ws pc lv st := by
  subst hp
  obtain ⟨hx, hb, hml, hown, hts, hlk, hE⟩ := X
  intro H locs ls hro hP hD hS hl
  exact lv_sipush hx hb hd hv (kk H locs ls hro hP hD hS hl)
theorem g_lconst (X : GX p l e R s m args below meth c D A nL cc own Ts) {n : Fin 2} {v : Int64} (hd : decode cc pc = .ok (.lconst n, 1)) (hv : Int64.ofNat (n : Nat) = v) (hp : pc + 1 = pc') (kk : GG p l e R s m args below meth c D A nL ro cs sl Q ws pc' lv (.long v :: st)) : GG p l e R s m args below meth c D A nL ro cs sl Q ws pc lv st := by
  subst hp
  obtain ⟨hx, hb, hml, hown, hts, hlk, hE⟩ := X
  intro H locs ls hro hP hD hS hl
  exact lv_lconst hx hb hd hv (kk H locs ls hro hP hD hS hl)
theorem g_ldc2 (X : GX p l e R s m args below meth c D A nL cc own Ts) {index : Nat} {v : Int64} (hd : decode cc pc = .ok (.ldc2_w index, 3)) (hw : Cond.constantLong own index v ∈ Ts) (hp : pc + 3 = pc') (kk : GG p l e R s m args below meth c D A nL ro cs sl Q ws pc' lv (.long v :: st)) : GG p l e R s m args below meth c D A nL ro cs sl Q ws pc lv st := by
  subst hp
  obtain ⟨hx, hb, hml, hown, hts, hlk, hE⟩ := X
  intro H locs ls hro hP hD hS hl
  exact lv_ldc2 hx hb hown (hts _ hw) hd (kk H locs ls hro hP hD hS hl)
theorem g_null (X : GX p l e R s m args below meth c D A nL cc own Ts)  (hd : decode cc pc = .ok (.aconst_null, 1)) (hp : pc + 1 = pc') (kk : GG p l e R s m args below meth c D A nL ro cs sl Q ws pc' lv (.null :: st)) : GG p l e R s m args below meth c D A nL ro cs sl Q ws pc lv st := by
  subst hp
  obtain ⟨hx, hb, hml, hown, hts, hlk, hE⟩ := X
  intro H locs ls hro hP hD hS hl
  exact lv_null hx hb hd (kk H locs ls hro hP hD hS hl)
theorem g_iload_n (X : GX p l e R s m args below meth c D A nL cc own Ts) {k : Fin 4} {i : Nat} {x : Int32} (hd : decode cc pc = .ok (.iload_n k, 1)) (hi : (k : Nat) = i) (q : Nat) (hk : lv[q]? = some (i, .int x)) (hp : pc + 1 = pc') (kk : GG p l e R s m args below meth c D A nL ro cs sl Q ws pc' lv (.int x :: st)) : GG p l e R s m args below meth c D A nL ro cs sl Q ws pc lv st := by
  subst hp
  obtain ⟨hx, hb, hml, hown, hts, hlk, hE⟩ := X
  intro H locs ls hro hP hD hS hl
  exact lv_iload_n hx hb hd hi (lv_at hl q hk) (kk H locs ls hro hP hD hS hl)
theorem g_iload (X : GX p l e R s m args below meth c D A nL cc own Ts) {i : Nat} {x : Int32} (hd : decode cc pc = .ok (.iload i, 2)) (q : Nat) (hk : lv[q]? = some (i, .int x)) (hp : pc + 2 = pc') (kk : GG p l e R s m args below meth c D A nL ro cs sl Q ws pc' lv (.int x :: st)) : GG p l e R s m args below meth c D A nL ro cs sl Q ws pc lv st := by
  subst hp
  obtain ⟨hx, hb, hml, hown, hts, hlk, hE⟩ := X
  intro H locs ls hro hP hD hS hl
  exact lv_iload hx hb hd (lv_at hl q hk) (kk H locs ls hro hP hD hS hl)
theorem g_lload_n (X : GX p l e R s m args below meth c D A nL cc own Ts) {k : Fin 4} {i : Nat} {x : Int64} (hd : decode cc pc = .ok (.lload_n k, 1)) (hi : (k : Nat) = i) (q : Nat) (hk : lv[q]? = some (i, .long x)) (hp : pc + 1 = pc') (kk : GG p l e R s m args below meth c D A nL ro cs sl Q ws pc' lv (.long x :: st)) : GG p l e R s m args below meth c D A nL ro cs sl Q ws pc lv st := by
  subst hp
  obtain ⟨hx, hb, hml, hown, hts, hlk, hE⟩ := X
  intro H locs ls hro hP hD hS hl
  exact lv_lload_n hx hb hd hi (lv_at hl q hk) (kk H locs ls hro hP hD hS hl)
theorem g_lload (X : GX p l e R s m args below meth c D A nL cc own Ts) {i : Nat} {x : Int64} (hd : decode cc pc = .ok (.lload i, 2)) (q : Nat) (hk : lv[q]? = some (i, .long x)) (hp : pc + 2 = pc') (kk : GG p l e R s m args below meth c D A nL ro cs sl Q ws pc' lv (.long x :: st)) : GG p l e R s m args below meth c D A nL ro cs sl Q ws pc lv st := by
  subst hp
  obtain ⟨hx, hb, hml, hown, hts, hlk, hE⟩ := X
  intro H locs ls hro hP hD hS hl
  exact lv_lload hx hb hd (lv_at hl q hk) (kk H locs ls hro hP hD hS hl)
theorem g_aload_n (X : GX p l e R s m args below meth c D A nL cc own Ts) {k : Fin 4} {i : Nat} {x : Nat} (hd : decode cc pc = .ok (.aload_n k, 1)) (hi : (k : Nat) = i) (q : Nat) (hk : lv[q]? = some (i, .ref x)) (hp : pc + 1 = pc') (kk : GG p l e R s m args below meth c D A nL ro cs sl Q ws pc' lv (.ref x :: st)) : GG p l e R s m args below meth c D A nL ro cs sl Q ws pc lv st := by
  subst hp
  obtain ⟨hx, hb, hml, hown, hts, hlk, hE⟩ := X
  intro H locs ls hro hP hD hS hl
  exact lv_aload_n hx hb hd hi (lv_at hl q hk) (kk H locs ls hro hP hD hS hl)
theorem g_aload (X : GX p l e R s m args below meth c D A nL cc own Ts) {i : Nat} {x : Nat} (hd : decode cc pc = .ok (.aload i, 2)) (q : Nat) (hk : lv[q]? = some (i, .ref x)) (hp : pc + 2 = pc') (kk : GG p l e R s m args below meth c D A nL ro cs sl Q ws pc' lv (.ref x :: st)) : GG p l e R s m args below meth c D A nL ro cs sl Q ws pc lv st := by
  subst hp
  obtain ⟨hx, hb, hml, hown, hts, hlk, hE⟩ := X
  intro H locs ls hro hP hD hS hl
  exact lv_aload hx hb hd (lv_at hl q hk) (kk H locs ls hro hP hD hS hl)
theorem g_istore_n (X : GX p l e R s m args below meth c D A nL cc own Ts) {k : Fin 4} {i : Nat} {x : Int32} (lv' : List (Nat × Value)) (hd : decode cc pc = .ok (.istore_n k, 1)) (hi : (k : Nat) = i) (hn : i < nL) (hlv : (i, Value.int x) :: lv.filter (fun q => !(q.1 == i) && !(q.1 + 1 == i && q.2.category == 2)) = lv') (hp : pc + 1 = pc') (kk : GG p l e R s m args below meth c D A nL ro cs sl Q ws pc' lv' st) : GG p l e R s m args below meth c D A nL ro cs sl Q ws pc lv (.int x :: st) := by
  subst hp
  obtain ⟨hx, hb, hml, hown, hts, hlk, hE⟩ := X
  intro H locs ls hro hP hD hS hl
  exact lv_istore_n hx hb hd hi hl hn hlv (fun ls hl => kk H locs ls hro hP hD hS hl)
theorem g_istore (X : GX p l e R s m args below meth c D A nL cc own Ts) {i : Nat} {x : Int32} (lv' : List (Nat × Value)) (hd : decode cc pc = .ok (.istore i, 2)) (hn : i < nL) (hlv : (i, Value.int x) :: lv.filter (fun q => !(q.1 == i) && !(q.1 + 1 == i && q.2.category == 2)) = lv') (hp : pc + 2 = pc') (kk : GG p l e R s m args below meth c D A nL ro cs sl Q ws pc' lv' st) : GG p l e R s m args below meth c D A nL ro cs sl Q ws pc lv (.int x :: st) := by
  subst hp
  obtain ⟨hx, hb, hml, hown, hts, hlk, hE⟩ := X
  intro H locs ls hro hP hD hS hl
  exact lv_istore hx hb hd hl hn hlv (fun ls hl => kk H locs ls hro hP hD hS hl)
theorem g_lstore_n (X : GX p l e R s m args below meth c D A nL cc own Ts) {k : Fin 4} {i : Nat} {x : Int64} (lv' : List (Nat × Value)) (hd : decode cc pc = .ok (.lstore_n k, 1)) (hi : (k : Nat) = i) (hn : i + 1 < nL) (hlv : (i, Value.long x) :: lv.filter (fun q => !(q.1 == i) && (!(q.1 == i + 1) && !(q.1 + 1 == i && q.2.category == 2))) = lv') (hp : pc + 1 = pc') (kk : GG p l e R s m args below meth c D A nL ro cs sl Q ws pc' lv' st) : GG p l e R s m args below meth c D A nL ro cs sl Q ws pc lv (.long x :: st) := by
  subst hp
  obtain ⟨hx, hb, hml, hown, hts, hlk, hE⟩ := X
  intro H locs ls hro hP hD hS hl
  exact lv_lstore_n hx hb hd hi hl hn hlv (fun ls hl => kk H locs ls hro hP hD hS hl)
theorem g_lstore (X : GX p l e R s m args below meth c D A nL cc own Ts) {i : Nat} {x : Int64} (lv' : List (Nat × Value)) (hd : decode cc pc = .ok (.lstore i, 2)) (hn : i + 1 < nL) (hlv : (i, Value.long x) :: lv.filter (fun q => !(q.1 == i) && (!(q.1 == i + 1) && !(q.1 + 1 == i && q.2.category == 2))) = lv') (hp : pc + 2 = pc') (kk : GG p l e R s m args below meth c D A nL ro cs sl Q ws pc' lv' st) : GG p l e R s m args below meth c D A nL ro cs sl Q ws pc lv (.long x :: st) := by
  subst hp
  obtain ⟨hx, hb, hml, hown, hts, hlk, hE⟩ := X
  intro H locs ls hro hP hD hS hl
  exact lv_lstore hx hb hd hl hn hlv (fun ls hl => kk H locs ls hro hP hD hS hl)
theorem g_astore_n (X : GX p l e R s m args below meth c D A nL cc own Ts) {k : Fin 4} {i : Nat} {x : Nat} (lv' : List (Nat × Value)) (hd : decode cc pc = .ok (.astore_n k, 1)) (hi : (k : Nat) = i) (hn : i < nL) (hlv : (i, Value.ref x) :: lv.filter (fun q => !(q.1 == i) && !(q.1 + 1 == i && q.2.category == 2)) = lv') (hp : pc + 1 = pc') (kk : GG p l e R s m args below meth c D A nL ro cs sl Q ws pc' lv' st) : GG p l e R s m args below meth c D A nL ro cs sl Q ws pc lv (.ref x :: st) := by
  subst hp
  obtain ⟨hx, hb, hml, hown, hts, hlk, hE⟩ := X
  intro H locs ls hro hP hD hS hl
  exact lv_astore_n hx hb hd hi hl hn hlv (fun ls hl => kk H locs ls hro hP hD hS hl)
theorem g_astore (X : GX p l e R s m args below meth c D A nL cc own Ts) {i : Nat} {x : Nat} (lv' : List (Nat × Value)) (hd : decode cc pc = .ok (.astore i, 2)) (hn : i < nL) (hlv : (i, Value.ref x) :: lv.filter (fun q => !(q.1 == i) && !(q.1 + 1 == i && q.2.category == 2)) = lv') (hp : pc + 2 = pc') (kk : GG p l e R s m args below meth c D A nL ro cs sl Q ws pc' lv' st) : GG p l e R s m args below meth c D A nL ro cs sl Q ws pc lv (.ref x :: st) := by
  subst hp
  obtain ⟨hx, hb, hml, hown, hts, hlk, hE⟩ := X
  intro H locs ls hro hP hD hS hl
  exact lv_astore hx hb hd hl hn hlv (fun ls hl => kk H locs ls hro hP hD hS hl)
theorem g_iinc (X : GX p l e R s m args below meth c D A nL cc own Ts) {i : Nat} {n : Int} {x v : Int32} (lv' : List (Nat × Value)) (hd : decode cc pc = .ok (.iinc i n, 3)) (q : Nat) (hk : lv[q]? = some (i, .int x)) (hv : x + Int32.ofInt n = v) (hn : i < nL) (hlv : (i, Value.int v) :: lv.filter (fun q => !(q.1 == i) && !(q.1 + 1 == i && q.2.category == 2)) = lv') (hp : pc + 3 = pc') (kk : GG p l e R s m args below meth c D A nL ro cs sl Q ws pc' lv' st) : GG p l e R s m args below meth c D A nL ro cs sl Q ws pc lv st := by
  subst hp
  obtain ⟨hx, hb, hml, hown, hts, hlk, hE⟩ := X
  intro H locs ls hro hP hD hS hl
  exact lv_iinc hx hb hd hl hk hv hn hlv (fun ls hl => kk H locs ls hro hP hD hS hl)
theorem g_iadd (X : GX p l e R s m args below meth c D A nL cc own Ts) {x y : Int32} (hd : decode cc pc = .ok (.iadd, 1)) (hp : pc + 1 = pc') (kk : GG p l e R s m args below meth c D A nL ro cs sl Q ws pc' lv (.int (x + y) :: st)) : GG p l e R s m args below meth c D A nL ro cs sl Q ws pc lv (.int y :: .int x :: st) := by
  subst hp
  obtain ⟨hx, hb, hml, hown, hts, hlk, hE⟩ := X
  intro H locs ls hro hP hD hS hl
  exact lv_iadd hx hb hd (kk H locs ls hro hP hD hS hl)
theorem g_isub (X : GX p l e R s m args below meth c D A nL cc own Ts) {x y : Int32} (hd : decode cc pc = .ok (.isub, 1)) (hp : pc + 1 = pc') (kk : GG p l e R s m args below meth c D A nL ro cs sl Q ws pc' lv (.int (x - y) :: st)) : GG p l e R s m args below meth c D A nL ro cs sl Q ws pc lv (.int y :: .int x :: st) := by
  subst hp
  obtain ⟨hx, hb, hml, hown, hts, hlk, hE⟩ := X
  intro H locs ls hro hP hD hS hl
  exact lv_isub hx hb hd (kk H locs ls hro hP hD hS hl)
theorem g_imul (X : GX p l e R s m args below meth c D A nL cc own Ts) {x y : Int32} (hd : decode cc pc = .ok (.imul, 1)) (hp : pc + 1 = pc') (kk : GG p l e R s m args below meth c D A nL ro cs sl Q ws pc' lv (.int (x * y) :: st)) : GG p l e R s m args below meth c D A nL ro cs sl Q ws pc lv (.int y :: .int x :: st) := by
  subst hp
  obtain ⟨hx, hb, hml, hown, hts, hlk, hE⟩ := X
  intro H locs ls hro hP hD hS hl
  exact lv_imul hx hb hd (kk H locs ls hro hP hD hS hl)
theorem g_iand (X : GX p l e R s m args below meth c D A nL cc own Ts) {x y : Int32} (hd : decode cc pc = .ok (.iand, 1)) (hp : pc + 1 = pc') (kk : GG p l e R s m args below meth c D A nL ro cs sl Q ws pc' lv (.int (x &&& y) :: st)) : GG p l e R s m args below meth c D A nL ro cs sl Q ws pc lv (.int y :: .int x :: st) := by
  subst hp
  obtain ⟨hx, hb, hml, hown, hts, hlk, hE⟩ := X
  intro H locs ls hro hP hD hS hl
  exact lv_iand hx hb hd (kk H locs ls hro hP hD hS hl)
theorem g_ior (X : GX p l e R s m args below meth c D A nL cc own Ts) {x y : Int32} (hd : decode cc pc = .ok (.ior, 1)) (hp : pc + 1 = pc') (kk : GG p l e R s m args below meth c D A nL ro cs sl Q ws pc' lv (.int (x ||| y) :: st)) : GG p l e R s m args below meth c D A nL ro cs sl Q ws pc lv (.int y :: .int x :: st) := by
  subst hp
  obtain ⟨hx, hb, hml, hown, hts, hlk, hE⟩ := X
  intro H locs ls hro hP hD hS hl
  exact lv_ior hx hb hd (kk H locs ls hro hP hD hS hl)
theorem g_ixor (X : GX p l e R s m args below meth c D A nL cc own Ts) {x y : Int32} (hd : decode cc pc = .ok (.ixor, 1)) (hp : pc + 1 = pc') (kk : GG p l e R s m args below meth c D A nL ro cs sl Q ws pc' lv (.int (x ^^^ y) :: st)) : GG p l e R s m args below meth c D A nL ro cs sl Q ws pc lv (.int y :: .int x :: st) := by
  subst hp
  obtain ⟨hx, hb, hml, hown, hts, hlk, hE⟩ := X
  intro H locs ls hro hP hD hS hl
  exact lv_ixor hx hb hd (kk H locs ls hro hP hD hS hl)
theorem g_ishl (X : GX p l e R s m args below meth c D A nL cc own Ts) {x y : Int32} (hd : decode cc pc = .ok (.ishl, 1)) (hp : pc + 1 = pc') (kk : GG p l e R s m args below meth c D A nL ro cs sl Q ws pc' lv (.int (x <<< (y &&& 31)) :: st)) : GG p l e R s m args below meth c D A nL ro cs sl Q ws pc lv (.int y :: .int x :: st) := by
  subst hp
  obtain ⟨hx, hb, hml, hown, hts, hlk, hE⟩ := X
  intro H locs ls hro hP hD hS hl
  exact lv_ishl hx hb hd (kk H locs ls hro hP hD hS hl)
theorem g_ishr (X : GX p l e R s m args below meth c D A nL cc own Ts) {x y : Int32} (hd : decode cc pc = .ok (.ishr, 1)) (hp : pc + 1 = pc') (kk : GG p l e R s m args below meth c D A nL ro cs sl Q ws pc' lv (.int (x >>> (y &&& 31)) :: st)) : GG p l e R s m args below meth c D A nL ro cs sl Q ws pc lv (.int y :: .int x :: st) := by
  subst hp
  obtain ⟨hx, hb, hml, hown, hts, hlk, hE⟩ := X
  intro H locs ls hro hP hD hS hl
  exact lv_ishr hx hb hd (kk H locs ls hro hP hD hS hl)
theorem g_irem (X : GX p l e R s m args below meth c D A nL cc own Ts) {x y : Int32} (hd : decode cc pc = .ok (.irem, 1)) (hne : ¬ y = 0) (hp : pc + 1 = pc') (kk : GG p l e R s m args below meth c D A nL ro cs sl Q ws pc' lv (.int (x - x / y * y) :: st)) : GG p l e R s m args below meth c D A nL ro cs sl Q ws pc lv (.int y :: .int x :: st) := by
  subst hp
  obtain ⟨hx, hb, hml, hown, hts, hlk, hE⟩ := X
  intro H locs ls hro hP hD hS hl
  exact lv_irem hx hb hd hne (kk H locs ls hro hP hD hS hl)
theorem g_iushr (X : GX p l e R s m args below meth c D A nL cc own Ts) {x y v : Int32} (hd : decode cc pc = .ok (.iushr, 1)) (hv : (x.toUInt32 >>> (y.toUInt32 &&& Int32.toUInt32 31)).toInt32 = v) (hp : pc + 1 = pc') (kk : GG p l e R s m args below meth c D A nL ro cs sl Q ws pc' lv (.int v :: st)) : GG p l e R s m args below meth c D A nL ro cs sl Q ws pc lv (.int y :: .int x :: st) := by
  subst hp
  obtain ⟨hx, hb, hml, hown, hts, hlk, hE⟩ := X
  intro H locs ls hro hP hD hS hl
  exact lv_iushr hx hb hd hv (kk H locs ls hro hP hD hS hl)
theorem g_ladd (X : GX p l e R s m args below meth c D A nL cc own Ts) {x y : Int64} (hd : decode cc pc = .ok (.ladd, 1)) (hp : pc + 1 = pc') (kk : GG p l e R s m args below meth c D A nL ro cs sl Q ws pc' lv (.long (x + y) :: st)) : GG p l e R s m args below meth c D A nL ro cs sl Q ws pc lv (.long y :: .long x :: st) := by
  subst hp
  obtain ⟨hx, hb, hml, hown, hts, hlk, hE⟩ := X
  intro H locs ls hro hP hD hS hl
  exact lv_ladd hx hb hd (kk H locs ls hro hP hD hS hl)
theorem g_lsub (X : GX p l e R s m args below meth c D A nL cc own Ts) {x y : Int64} (hd : decode cc pc = .ok (.lsub, 1)) (hp : pc + 1 = pc') (kk : GG p l e R s m args below meth c D A nL ro cs sl Q ws pc' lv (.long (x - y) :: st)) : GG p l e R s m args below meth c D A nL ro cs sl Q ws pc lv (.long y :: .long x :: st) := by
  subst hp
  obtain ⟨hx, hb, hml, hown, hts, hlk, hE⟩ := X
  intro H locs ls hro hP hD hS hl
  exact lv_lsub hx hb hd (kk H locs ls hro hP hD hS hl)
theorem g_land (X : GX p l e R s m args below meth c D A nL cc own Ts) {x y : Int64} (hd : decode cc pc = .ok (.land, 1)) (hp : pc + 1 = pc') (kk : GG p l e R s m args below meth c D A nL ro cs sl Q ws pc' lv (.long (x &&& y) :: st)) : GG p l e R s m args below meth c D A nL ro cs sl Q ws pc lv (.long y :: .long x :: st) := by
  subst hp
  obtain ⟨hx, hb, hml, hown, hts, hlk, hE⟩ := X
  intro H locs ls hro hP hD hS hl
  exact lv_land hx hb hd (kk H locs ls hro hP hD hS hl)
theorem g_lor (X : GX p l e R s m args below meth c D A nL cc own Ts) {x y : Int64} (hd : decode cc pc = .ok (.lor, 1)) (hp : pc + 1 = pc') (kk : GG p l e R s m args below meth c D A nL ro cs sl Q ws pc' lv (.long (x ||| y) :: st)) : GG p l e R s m args below meth c D A nL ro cs sl Q ws pc lv (.long y :: .long x :: st) := by
  subst hp
  obtain ⟨hx, hb, hml, hown, hts, hlk, hE⟩ := X
  intro H locs ls hro hP hD hS hl
  exact lv_lor hx hb hd (kk H locs ls hro hP hD hS hl)
theorem g_lxor (X : GX p l e R s m args below meth c D A nL cc own Ts) {x y : Int64} (hd : decode cc pc = .ok (.lxor, 1)) (hp : pc + 1 = pc') (kk : GG p l e R s m args below meth c D A nL ro cs sl Q ws pc' lv (.long (x ^^^ y) :: st)) : GG p l e R s m args below meth c D A nL ro cs sl Q ws pc lv (.long y :: .long x :: st) := by
  subst hp
  obtain ⟨hx, hb, hml, hown, hts, hlk, hE⟩ := X
  intro H locs ls hro hP hD hS hl
  exact lv_lxor hx hb hd (kk H locs ls hro hP hD hS hl)
theorem g_lushr (X : GX p l e R s m args below meth c D A nL cc own Ts) {x v : Int64} {y : Int32} (hd : decode cc pc = .ok (.lushr, 1)) (hv : (x.toUInt64 >>> (y.toInt64.toUInt64 &&& Int64.toUInt64 63)).toInt64 = v) (hp : pc + 1 = pc') (kk : GG p l e R s m args below meth c D A nL ro cs sl Q ws pc' lv (.long v :: st)) : GG p l e R s m args below meth c D A nL ro cs sl Q ws pc lv (.int y :: .long x :: st) := by
  subst hp
  obtain ⟨hx, hb, hml, hown, hts, hlk, hE⟩ := X
  intro H locs ls hro hP hD hS hl
  exact lv_lushr hx hb hd hv (kk H locs ls hro hP hD hS hl)
theorem g_lshl (X : GX p l e R s m args below meth c D A nL cc own Ts) {x v : Int64} {y : Int32} (hd : decode cc pc = .ok (.lshl, 1)) (hv : x <<< (y.toInt64 &&& 63) = v) (hp : pc + 1 = pc') (kk : GG p l e R s m args below meth c D A nL ro cs sl Q ws pc' lv (.long v :: st)) : GG p l e R s m args below meth c D A nL ro cs sl Q ws pc lv (.int y :: .long x :: st) := by
  subst hp
  obtain ⟨hx, hb, hml, hown, hts, hlk, hE⟩ := X
  intro H locs ls hro hP hD hS hl
  exact lv_lshl hx hb hd hv (kk H locs ls hro hP hD hS hl)
theorem g_lshr (X : GX p l e R s m args below meth c D A nL cc own Ts) {x v : Int64} {y : Int32} (hd : decode cc pc = .ok (.lshr, 1)) (hv : x >>> (y.toInt64 &&& 63) = v) (hp : pc + 1 = pc') (kk : GG p l e R s m args below meth c D A nL ro cs sl Q ws pc' lv (.long v :: st)) : GG p l e R s m args below meth c D A nL ro cs sl Q ws pc lv (.int y :: .long x :: st) := by
  subst hp
  obtain ⟨hx, hb, hml, hown, hts, hlk, hE⟩ := X
  intro H locs ls hro hP hD hS hl
  exact lv_lshr hx hb hd hv (kk H locs ls hro hP hD hS hl)
theorem g_lcmp (X : GX p l e R s m args below meth c D A nL cc own Ts) {x y : Int64} (hd : decode cc pc = .ok (.lcmp, 1)) (hp : pc + 1 = pc') (kk : GG p l e R s m args below meth c D A nL ro cs sl Q ws pc' lv (.int (lg_cmp x y) :: st)) : GG p l e R s m args below meth c D A nL ro cs sl Q ws pc lv (.long y :: .long x :: st) := by
  subst hp
  obtain ⟨hx, hb, hml, hown, hts, hlk, hE⟩ := X
  intro H locs ls hro hP hD hS hl
  exact W.lcmp hx hb hd (kk H locs ls hro hP hD hS hl)
theorem g_i2l (X : GX p l e R s m args below meth c D A nL cc own Ts) {x : Int32} {v : Int64} (hd : decode cc pc = .ok (.i2l, 1)) (hv : x.toInt64 = v) (hp : pc + 1 = pc') (kk : GG p l e R s m args below meth c D A nL ro cs sl Q ws pc' lv (.long v :: st)) : GG p l e R s m args below meth c D A nL ro cs sl Q ws pc lv (.int x :: st) := by
  subst hp
  obtain ⟨hx, hb, hml, hown, hts, hlk, hE⟩ := X
  intro H locs ls hro hP hD hS hl
  exact lv_i2l hx hb hd hv (kk H locs ls hro hP hD hS hl)
theorem g_l2i (X : GX p l e R s m args below meth c D A nL cc own Ts) {x : Int64} {v : Int32} (hd : decode cc pc = .ok (.l2i, 1)) (hv : x.toInt32 = v) (hp : pc + 1 = pc') (kk : GG p l e R s m args below meth c D A nL ro cs sl Q ws pc' lv (.int v :: st)) : GG p l e R s m args below meth c D A nL ro cs sl Q ws pc lv (.long x :: st) := by
  subst hp
  obtain ⟨hx, hb, hml, hown, hts, hlk, hE⟩ := X
  intro H locs ls hro hP hD hS hl
  exact lv_l2i hx hb hd hv (kk H locs ls hro hP hD hS hl)
theorem g_i2c (X : GX p l e R s m args below meth c D A nL cc own Ts) {x v : Int32} (hd : decode cc pc = .ok (.i2c, 1)) (hv : (x.toUInt32 % 65536).toInt32 = v) (hp : pc + 1 = pc') (kk : GG p l e R s m args below meth c D A nL ro cs sl Q ws pc' lv (.int v :: st)) : GG p l e R s m args below meth c D A nL ro cs sl Q ws pc lv (.int x :: st) := by
  subst hp
  obtain ⟨hx, hb, hml, hown, hts, hlk, hE⟩ := X
  intro H locs ls hro hP hD hS hl
  exact lv_i2c hx hb hd hv (kk H locs ls hro hP hD hS hl)
theorem g_dup (X : GX p l e R s m args below meth c D A nL cc own Ts) {va : Value} (hd : decode cc pc = .ok (.dup, 1)) (hva : va.category = 1) (hp : pc + 1 = pc') (kk : GG p l e R s m args below meth c D A nL ro cs sl Q ws pc' lv (va :: va :: st)) : GG p l e R s m args below meth c D A nL ro cs sl Q ws pc lv (va :: st) := by
  subst hp
  obtain ⟨hx, hb, hml, hown, hts, hlk, hE⟩ := X
  intro H locs ls hro hP hD hS hl
  exact lv_dup hx hb hd hva (kk H locs ls hro hP hD hS hl)
theorem g_dup2 (X : GX p l e R s m args below meth c D A nL cc own Ts) {va vb : Value} (hd : decode cc pc = .ok (.dup2, 1)) (hva : va.category = 1) (hvb : vb.category = 1) (hp : pc + 1 = pc') (kk : GG p l e R s m args below meth c D A nL ro cs sl Q ws pc' lv (va :: vb :: va :: vb :: st)) : GG p l e R s m args below meth c D A nL ro cs sl Q ws pc lv (va :: vb :: st) := by
  subst hp
  obtain ⟨hx, hb, hml, hown, hts, hlk, hE⟩ := X
  intro H locs ls hro hP hD hS hl
  exact lv_dup2_11 hx hb hd hva hvb (kk H locs ls hro hP hD hS hl)
theorem g_pop (X : GX p l e R s m args below meth c D A nL cc own Ts) {va : Value} (hd : decode cc pc = .ok (.pop, 1)) (hva : va.category = 1) (hp : pc + 1 = pc') (kk : GG p l e R s m args below meth c D A nL ro cs sl Q ws pc' lv st) : GG p l e R s m args below meth c D A nL ro cs sl Q ws pc lv (va :: st) := by
  subst hp
  obtain ⟨hx, hb, hml, hown, hts, hlk, hE⟩ := X
  intro H locs ls hro hP hD hS hl
  exact lv_pop hx hb hd hva (kk H locs ls hro hP hD hS hl)
theorem g_if_eq (X : GX p l e R s m args below meth c D A nL cc own Ts) {x : Int32} {off : Int} (hd : decode cc pc = .ok (.ifCond .eq off, 3)) (tgt : Nat) (ht : (pc : Int) + off = (tgt : Int)) (hp : pc + 3 = pc') (kt : x = 0 → GG p l e R s m args below meth c D A nL ro cs sl Q ws tgt lv st) (kf : ¬ x = 0 → GG p l e R s m args below meth c D A nL ro cs sl Q ws pc' lv st) : GG p l e R s m args below meth c D A nL ro cs sl Q ws pc lv (.int x :: st) := by
  subst hp
  obtain ⟨hx, hb, hml, hown, hts, hlk, hE⟩ := X
  intro H locs ls hro hP hD hS hl
  exact lv_if_eq hx hb hd ht (fun h => kt h H locs ls hro hP hD hS hl) (fun h => kf h H locs ls hro hP hD hS hl)
theorem g_if_ne (X : GX p l e R s m args below meth c D A nL cc own Ts) {x : Int32} {off : Int} (hd : decode cc pc = .ok (.ifCond .ne off, 3)) (tgt : Nat) (ht : (pc : Int) + off = (tgt : Int)) (hp : pc + 3 = pc') (kt : ¬ x = 0 → GG p l e R s m args below meth c D A nL ro cs sl Q ws tgt lv st) (kf : x = 0 → GG p l e R s m args below meth c D A nL ro cs sl Q ws pc' lv st) : GG p l e R s m args below meth c D A nL ro cs sl Q ws pc lv (.int x :: st) := by
  subst hp
  obtain ⟨hx, hb, hml, hown, hts, hlk, hE⟩ := X
  intro H locs ls hro hP hD hS hl
  exact lv_if_ne hx hb hd ht (fun h => kt h H locs ls hro hP hD hS hl) (fun h => kf h H locs ls hro hP hD hS hl)
theorem g_if_lt (X : GX p l e R s m args below meth c D A nL cc own Ts) {x : Int32} {off : Int} (hd : decode cc pc = .ok (.ifCond .lt off, 3)) (tgt : Nat) (ht : (pc : Int) + off = (tgt : Int)) (hp : pc + 3 = pc') (kt : x < 0 → GG p l e R s m args below meth c D A nL ro cs sl Q ws tgt lv st) (kf : ¬ x < 0 → GG p l e R s m args below meth c D A nL ro cs sl Q ws pc' lv st) : GG p l e R s m args below meth c D A nL ro cs sl Q ws pc lv (.int x :: st) := by
  subst hp
  obtain ⟨hx, hb, hml, hown, hts, hlk, hE⟩ := X
  intro H locs ls hro hP hD hS hl
  exact lv_if_lt hx hb hd ht (fun h => kt h H locs ls hro hP hD hS hl) (fun h => kf h H locs ls hro hP hD hS hl)
theorem g_if_ge (X : GX p l e R s m args below meth c D A nL cc own Ts) {x : Int32} {off : Int} (hd : decode cc pc = .ok (.ifCond .ge off, 3)) (tgt : Nat) (ht : (pc : Int) + off = (tgt : Int)) (hp : pc + 3 = pc') (kt : 0 ≤ x → GG p l e R s m args below meth c D A nL ro cs sl Q ws tgt lv st) (kf : ¬ 0 ≤ x → GG p l e R s m args below meth c D A nL ro cs sl Q ws pc' lv st) : GG p l e R s m args below meth c D A nL ro cs sl Q ws pc lv (.int x :: st) := by
  subst hp
  obtain ⟨hx, hb, hml, hown, hts, hlk, hE⟩ := X
  intro H locs ls hro hP hD hS hl
  exact lv_if_ge hx hb hd ht (fun h => kt h H locs ls hro hP hD hS hl) (fun h => kf h H locs ls hro hP hD hS hl)
theorem g_if_gt (X : GX p l e R s m args below meth c D A nL cc own Ts) {x : Int32} {off : Int} (hd : decode cc pc = .ok (.ifCond .gt off, 3)) (tgt : Nat) (ht : (pc : Int) + off = (tgt : Int)) (hp : pc + 3 = pc') (kt : 0 < x → GG p l e R s m args below meth c D A nL ro cs sl Q ws tgt lv st) (kf : ¬ 0 < x → GG p l e R s m args below meth c D A nL ro cs sl Q ws pc' lv st) : GG p l e R s m args below meth c D A nL ro cs sl Q ws pc lv (.int x :: st) := by
  subst hp
  obtain ⟨hx, hb, hml, hown, hts, hlk, hE⟩ := X
  intro H locs ls hro hP hD hS hl
  exact lv_if_gt hx hb hd ht (fun h => kt h H locs ls hro hP hD hS hl) (fun h => kf h H locs ls hro hP hD hS hl)
theorem g_if_le (X : GX p l e R s m args below meth c D A nL cc own Ts) {x : Int32} {off : Int} (hd : decode cc pc = .ok (.ifCond .le off, 3)) (tgt : Nat) (ht : (pc : Int) + off = (tgt : Int)) (hp : pc + 3 = pc') (kt : x ≤ 0 → GG p l e R s m args below meth c D A nL ro cs sl Q ws tgt lv st) (kf : ¬ x ≤ 0 → GG p l e R s m args below meth c D A nL ro cs sl Q ws pc' lv st) : GG p l e R s m args below meth c D A nL ro cs sl Q ws pc lv (.int x :: st) := by
  subst hp
  obtain ⟨hx, hb, hml, hown, hts, hlk, hE⟩ := X
  intro H locs ls hro hP hD hS hl
  exact lv_if_le hx hb hd ht (fun h => kt h H locs ls hro hP hD hS hl) (fun h => kf h H locs ls hro hP hD hS hl)
theorem g_icmp_eq (X : GX p l e R s m args below meth c D A nL cc own Ts) {x y : Int32} {off : Int} (hd : decode cc pc = .ok (.if_icmp .eq off, 3)) (tgt : Nat) (ht : (pc : Int) + off = (tgt : Int)) (hp : pc + 3 = pc') (kt : x = y → GG p l e R s m args below meth c D A nL ro cs sl Q ws tgt lv st) (kf : ¬ x = y → GG p l e R s m args below meth c D A nL ro cs sl Q ws pc' lv st) : GG p l e R s m args below meth c D A nL ro cs sl Q ws pc lv (.int y :: .int x :: st) := by
  subst hp
  obtain ⟨hx, hb, hml, hown, hts, hlk, hE⟩ := X
  intro H locs ls hro hP hD hS hl
  exact lv_icmp_eq hx hb hd ht (fun h => kt h H locs ls hro hP hD hS hl) (fun h => kf h H locs ls hro hP hD hS hl)
theorem g_icmp_ne (X : GX p l e R s m args below meth c D A nL cc own Ts) {x y : Int32} {off : Int} (hd : decode cc pc = .ok (.if_icmp .ne off, 3)) (tgt : Nat) (ht : (pc : Int) + off = (tgt : Int)) (hp : pc + 3 = pc') (kt : ¬ x = y → GG p l e R s m args below meth c D A nL ro cs sl Q ws tgt lv st) (kf : x = y → GG p l e R s m args below meth c D A nL ro cs sl Q ws pc' lv st) : GG p l e R s m args below meth c D A nL ro cs sl Q ws pc lv (.int y :: .int x :: st) := by
  subst hp
  obtain ⟨hx, hb, hml, hown, hts, hlk, hE⟩ := X
  intro H locs ls hro hP hD hS hl
  exact lv_icmp_ne hx hb hd ht (fun h => kt h H locs ls hro hP hD hS hl) (fun h => kf h H locs ls hro hP hD hS hl)
theorem g_icmp_lt (X : GX p l e R s m args below meth c D A nL cc own Ts) {x y : Int32} {off : Int} (hd : decode cc pc = .ok (.if_icmp .lt off, 3)) (tgt : Nat) (ht : (pc : Int) + off = (tgt : Int)) (hp : pc + 3 = pc') (kt : x < y → GG p l e R s m args below meth c D A nL ro cs sl Q ws tgt lv st) (kf : ¬ x < y → GG p l e R s m args below meth c D A nL ro cs sl Q ws pc' lv st) : GG p l e R s m args below meth c D A nL ro cs sl Q ws pc lv (.int y :: .int x :: st) := by
  subst hp
  obtain ⟨hx, hb, hml, hown, hts, hlk, hE⟩ := X
  intro H locs ls hro hP hD hS hl
  exact lv_icmp_lt hx hb hd ht (fun h => kt h H locs ls hro hP hD hS hl) (fun h => kf h H locs ls hro hP hD hS hl)
theorem g_icmp_ge (X : GX p l e R s m args below meth c D A nL cc own Ts) {x y : Int32} {off : Int} (hd : decode cc pc = .ok (.if_icmp .ge off, 3)) (tgt : Nat) (ht : (pc : Int) + off = (tgt : Int)) (hp : pc + 3 = pc') (kt : y ≤ x → GG p l e R s m args below meth c D A nL ro cs sl Q ws tgt lv st) (kf : ¬ y ≤ x → GG p l e R s m args below meth c D A nL ro cs sl Q ws pc' lv st) : GG p l e R s m args below meth c D A nL ro cs sl Q ws pc lv (.int y :: .int x :: st) := by
  subst hp
  obtain ⟨hx, hb, hml, hown, hts, hlk, hE⟩ := X
  intro H locs ls hro hP hD hS hl
  exact lv_icmp_ge hx hb hd ht (fun h => kt h H locs ls hro hP hD hS hl) (fun h => kf h H locs ls hro hP hD hS hl)
theorem g_icmp_gt (X : GX p l e R s m args below meth c D A nL cc own Ts) {x y : Int32} {off : Int} (hd : decode cc pc = .ok (.if_icmp .gt off, 3)) (tgt : Nat) (ht : (pc : Int) + off = (tgt : Int)) (hp : pc + 3 = pc') (kt : y < x → GG p l e R s m args below meth c D A nL ro cs sl Q ws tgt lv st) (kf : ¬ y < x → GG p l e R s m args below meth c D A nL ro cs sl Q ws pc' lv st) : GG p l e R s m args below meth c D A nL ro cs sl Q ws pc lv (.int y :: .int x :: st) := by
  subst hp
  obtain ⟨hx, hb, hml, hown, hts, hlk, hE⟩ := X
  intro H locs ls hro hP hD hS hl
  exact lv_icmp_gt hx hb hd ht (fun h => kt h H locs ls hro hP hD hS hl) (fun h => kf h H locs ls hro hP hD hS hl)
theorem g_icmp_le (X : GX p l e R s m args below meth c D A nL cc own Ts) {x y : Int32} {off : Int} (hd : decode cc pc = .ok (.if_icmp .le off, 3)) (tgt : Nat) (ht : (pc : Int) + off = (tgt : Int)) (hp : pc + 3 = pc') (kt : x ≤ y → GG p l e R s m args below meth c D A nL ro cs sl Q ws tgt lv st) (kf : ¬ x ≤ y → GG p l e R s m args below meth c D A nL ro cs sl Q ws pc' lv st) : GG p l e R s m args below meth c D A nL ro cs sl Q ws pc lv (.int y :: .int x :: st) := by
  subst hp
  obtain ⟨hx, hb, hml, hown, hts, hlk, hE⟩ := X
  intro H locs ls hro hP hD hS hl
  exact lv_icmp_le hx hb hd ht (fun h => kt h H locs ls hro hP hD hS hl) (fun h => kf h H locs ls hro hP hD hS hl)
theorem g_goto (X : GX p l e R s m args below meth c D A nL cc own Ts) {off : Int} (hd : decode cc pc = .ok (.goto off, 3)) (tgt : Nat) (ht : (pc : Int) + off = (tgt : Int)) (kk : GG p l e R s m args below meth c D A nL ro cs sl Q ws tgt lv st) : GG p l e R s m args below meth c D A nL ro cs sl Q ws pc lv st := by
  obtain ⟨hx, hb, hml, hown, hts, hlk, hE⟩ := X
  intro H locs ls hro hP hD hS hl
  exact lv_goto hx hb hd ht (kk H locs ls hro hP hD hS hl)
theorem g_ifnonnull (X : GX p l e R s m args below meth c D A nL cc own Ts) {x : Nat} {off : Int} (hd : decode cc pc = .ok (.ifnonnull off, 3)) (tgt : Nat) (ht : (pc : Int) + off = (tgt : Int)) (kk : GG p l e R s m args below meth c D A nL ro cs sl Q ws tgt lv st) : GG p l e R s m args below meth c D A nL ro cs sl Q ws pc lv (.ref x :: st) := by
  obtain ⟨hx, hb, hml, hown, hts, hlk, hE⟩ := X
  intro H locs ls hro hP hD hS hl
  exact lv_ifnonnull hx hb hd ht (kk H locs ls hro hP hD hS hl)
theorem g_ifnonnullN (X : GX p l e R s m args below meth c D A nL cc own Ts) {off : Int} (hd : decode cc pc = .ok (.ifnonnull off, 3)) (hp : pc + 3 = pc') (kk : GG p l e R s m args below meth c D A nL ro cs sl Q ws pc' lv st) : GG p l e R s m args below meth c D A nL ro cs sl Q ws pc lv (.null :: st) := by
  subst hp
  obtain ⟨hx, hb, hml, hown, hts, hlk, hE⟩ := X
  intro H locs ls hro hP hD hS hl
  exact lv_ifnonnullN hx hb hd (kk H locs ls hro hP hD hS hl)
theorem g_table (X : GX p l e R s m args below meth c D A nL cc own Ts) {dflt lo hi : Int} {offs : Array Int} {len : Nat} {x : Int32} (hd : decode cc pc = .ok (.tableswitch dflt lo hi offs, len)) (tgt : Int → Nat) (ht : ∀ v : Int, lo ≤ v → v ≤ hi → ∃ off : Int, offs[(v - lo).toNat]? = some off ∧ (pc : Int) + off = (tgt v : Int)) (dt : Nat) (hdt : (pc : Int) + dflt = (dt : Int)) (kt : lo ≤ x.toInt → x.toInt ≤ hi → GG p l e R s m args below meth c D A nL ro cs sl Q ws (tgt x.toInt) lv st) (kf : x.toInt < lo ∨ hi < x.toInt → GG p l e R s m args below meth c D A nL ro cs sl Q ws dt lv st) : GG p l e R s m args below meth c D A nL ro cs sl Q ws pc lv (.int x :: st) := by
  obtain ⟨hx, hb, hml, hown, hts, hlk, hE⟩ := X
  intro H locs ls hro hP hD hS hl
  by_cases h1 : x.toInt < lo ∨ hi < x.toInt
  · exact lv_tableOut hx hb hd h1 hdt (kf h1 H locs ls hro hP hD hS hl)
  · obtain ⟨off, h2, h3⟩ := ht x.toInt (by omega) (by omega)
    exact lv_tableIn hx hb hd (by omega) (by omega) h2 h3 (kt (by omega) (by omega) H locs ls hro hP hD hS hl)
theorem g_lookup (X : GX p l e R s m args below meth c D A nL cc own Ts) {dflt : Int} {ps : Array (Int × Int)} {len : Nat} {x : Int32} {off : Int} (hd : decode cc pc = .ok (.lookupswitch dflt ps, len)) (hp : (ps.toList.zip (ps.toList.drop 1)).all (fun (a, next) => a.1 < next.1) = true) (ho : Op.lookupswitch.offset ps.toList dflt x.toInt = off) (tgt : Nat) (ht : (pc : Int) + off = (tgt : Int)) (kk : GG p l e R s m args below meth c D A nL ro cs sl Q ws tgt lv st) : GG p l e R s m args below meth c D A nL ro cs sl Q ws pc lv (.int x :: st) := by
  obtain ⟨hx, hb, hml, hown, hts, hlk, hE⟩ := X
  intro H locs ls hro hP hD hS hl
  exact lv_lookup hx hb hd hp ho ht (kk H locs ls hro hP hD hS hl)
theorem g_get (X : GX p l e R s m args below meth c D A nL cc own Ts) {C : String} {T : u_T} {N ci index a : Nat} {fs : List Value} {v : Value} (hd : decode cc pc = .ok (.getfield index, 3)) (hin : ∀ w ∈ u_ws C T N, w ∈ Ts) (hc : vwCl[ci]? = some (C, T, N)) (q0 : Nat) (he : ws[q0]? = some (a, .inr (ci, fs))) (k : Nat) (hk : k < N) (hlink : Cond.fieldLink own index (T k).1 (T k).2.1 (T k).2.2.1 ∈ Ts) (hv : fs[k]? = some v) (hp : pc + 3 = pc') (kk : GG p l e R s m args below meth c D A nL ro cs sl Q ws pc' lv (v :: st)) : GG p l e R s m args below meth c D A nL ro cs sl Q ws pc lv (.ref a :: st) := by
  subst hp
  obtain ⟨hx, hb, hml, hown, hts, hlk, hE⟩ := X
  intro H locs ls hro hP hD hS hl
  exact va_get hx hb hts hin hown hE.1 hP q0 he hc k hk (hts _ hlink) (fun x h => h) hv hd (kk H locs ls hro hP hD hS hl)
theorem g_iald (X : GX p l e R s m args below meth c D A nL cc own Ts) {cA : ClassId} {n a : Nat} {f : Nat → Int32} {i : Int32} (hd : decode cc pc = .ok (.iaload, 1)) (q0 : Nat) (ha : ws[q0]? = some (a, .inl (cA, n, .inl f))) (hA : cA = D.2.1) (hin : vp_in i n) (hp : pc + 1 = pc') (kk : GG p l e R s m args below meth c D A nL ro cs sl Q ws pc' lv (.int (f i.toNatClampNeg) :: st)) : GG p l e R s m args below meth c D A nL ro cs sl Q ws pc lv (.int i :: .ref a :: st) := by
  subst hp
  obtain ⟨hx, hb, hml, hown, hts, hlk, hE⟩ := X
  intro H locs ls hro hP hD hS hl
  subst hA; exact va_iald hx hb hE.1 hP q0 0 ha rfl hin hd (kk H locs ls hro hP hD hS hl)
theorem g_cald (X : GX p l e R s m args below meth c D A nL cc own Ts) {cA : ClassId} {n a : Nat} {f : Nat → Int32} {i : Int32} (hd : decode cc pc = .ok (.caload, 1)) (q0 : Nat) (ha : ws[q0]? = some (a, .inl (cA, n, .inl f))) (hA : cA = D.2.2.2.1) (hin : vp_in i n) (hp : pc + 1 = pc') (kk : GG p l e R s m args below meth c D A nL ro cs sl Q ws pc' lv (.int (f i.toNatClampNeg) :: st)) : GG p l e R s m args below meth c D A nL ro cs sl Q ws pc lv (.int i :: .ref a :: st) := by
  subst hp
  obtain ⟨hx, hb, hml, hown, hts, hlk, hE⟩ := X
  intro H locs ls hro hP hD hS hl
  subst hA; exact va_cald hx hb hE.1 hP q0 2 ha rfl hin hd (kk H locs ls hro hP hD hS hl)
theorem g_aald (X : GX p l e R s m args below meth c D A nL cc own Ts) {cA : ClassId} {n a : Nat} {f : Nat → Option Nat} {i : Int32} (hd : decode cc pc = .ok (.aaload, 1)) (q0 : Nat) (ha : ws[q0]? = some (a, .inl (cA, n, .inr (.inr (.inr (.inr f)))))) (hA : cA = D.2.2.2.2.1) (hin : vp_in i n) (hp : pc + 1 = pc') (kk : GG p l e R s m args below meth c D A nL ro cs sl Q ws pc' lv (va_rf (f i.toNatClampNeg) :: st)) : GG p l e R s m args below meth c D A nL ro cs sl Q ws pc lv (.int i :: .ref a :: st) := by
  subst hp
  obtain ⟨hx, hb, hml, hown, hts, hlk, hE⟩ := X
  intro H locs ls hro hP hD hS hl
  subst hA; exact va_aldq (C := RX2) hx hb hE.1 hP q0 3 ha rfl hin hd (kk H locs ls hro hP hD hS hl)
theorem g_alen (X : GX p l e R s m args below meth c D A nL cc own Ts) {cA : ClassId} {x : vp_A} {a : Nat} {v : Int32} (hd : decode cc pc = .ok (.arraylength, 1)) (q0 : Nat) (ha : ws[q0]? = some (a, .inl (cA, x))) (t0 : Nat) {ty : FieldType} (ht : (tyD D)[t0]? = some (cA, ty)) (hv : Int32.ofNat x.1 = v) (hp : pc + 1 = pc') (kk : GG p l e R s m args below meth c D A nL ro cs sl Q ws pc' lv (.int v :: st)) : GG p l e R s m args below meth c D A nL ro cs sl Q ws pc lv (.ref a :: st) := by
  subst hp
  obtain ⟨hx, hb, hml, hown, hts, hlk, hE⟩ := X
  intro H locs ls hro hP hD hS hl
  exact va_alen hx hb hE.1 hP q0 t0 ha ht hv hd (kk H locs ls hro hP hD hS hl)
theorem g_put (X : GX p l e R s m args below meth c D A nL cc own Ts) {C : String} {T : u_T} {N ci index a : Nat} {ty0 : Nat → FieldType} {fs : List Value} {ty : FieldType} {v : Value} (ws' : va_W) (hro0 : ro = false) (hd : decode cc pc = .ok (.putfield index, 3)) (hin : ∀ w ∈ u_ws C T N, w ∈ Ts) (hty : ∀ k, k < N → parseFieldDescriptor (T k).2.2.1 = some (ty0 k)) (hnm : ∀ a, a < N → ∀ b, b < N → a ≠ b → (T a).2.1 ≠ (T b).2.1) (hc : vwCl[ci]? = some (C, T, N)) (q0 : Nat) (he : ws[q0]? = some (a, .inr (ci, fs))) (k : Nat) (hk : k < N) (hlink : Cond.fieldLink own index (T k).1 (T k).2.1 (T k).2.2.1 ∈ Ts) (hfin : (T k).2.2.2 = false) (hpd : parseFieldDescriptor (T k).2.2.1 = some ty) (hn : narrow ty v = v) (hfit : fits ty v = true) (hlen : k < fs.length) (hws : ws.set q0 (a, .inr (ci, fs.set k v)) = ws') (hp : pc + 3 = pc') (kk : GG p l e R s m args below meth c D A nL ro cs sl Q ws' pc' lv st) : GG p l e R s m args below meth c D A nL ro cs sl Q ws pc lv (v :: .ref a :: st) := by
  subst hp
  obtain ⟨hx, hb, hml, hown, hts, hlk, hE⟩ := X
  intro H locs ls hro hP hD hS hl
  exact va_put hx hb hts hin ty0 hty hnm hown hE.1 hP hD hS q0 he hc k hk (hts _ hlink) (fun x h => h) hfin hpd hn hfit hlen hd (fun H1 locs1 hP1 hD1 hS1 => (kk H1 locs1 ls (fun h => by cases hro0.symm.trans h) (hws ▸ hP1) (hws ▸ hD1) hS1 hl))
theorem g_putF (X : GX p l e R s m args below meth c D A nL cc own Ts) {C : String} {T : u_T} {N ci index a : Nat} {ty0 : Nat → FieldType} {fs : List Value} {ty : FieldType} {v : Value} (ws' : va_W) (hro0 : ro = false) (hd : decode cc pc = .ok (.putfield index, 3)) (hin : ∀ w ∈ u_ws C T N, w ∈ Ts) (hty : ∀ k, k < N → parseFieldDescriptor (T k).2.2.1 = some (ty0 k)) (hnm : ∀ a, a < N → ∀ b, b < N → a ≠ b → (T a).2.1 ≠ (T b).2.1) (hc : vwCl[ci]? = some (C, T, N)) (q0 : Nat) (he : ws[q0]? = some (a, .inr (ci, fs))) (k : Nat) (hk : k < N) (hlink : Cond.fieldLink own index (T k).1 (T k).2.1 (T k).2.2.1 ∈ Ts) (hfin : (T k).2.2.2 = true) (hmn : meth.name = "<init>") (hdecl : (T k).1 = own) (hpd : parseFieldDescriptor (T k).2.2.1 = some ty) (hn : narrow ty v = v) (hfit : fits ty v = true) (hlen : k < fs.length) (hws : ws.set q0 (a, .inr (ci, fs.set k v)) = ws') (hp : pc + 3 = pc') (kk : GG p l e R s m args below meth c D A nL ro cs sl Q ws' pc' lv st) : GG p l e R s m args below meth c D A nL ro cs sl Q ws pc lv (v :: .ref a :: st) := by
  subst hp
  obtain ⟨hx, hb, hml, hown, hts, hlk, hE⟩ := X
  intro H locs ls hro hP hD hS hl
  exact va_putF hx hb hts hin ty0 hty hnm hown hE.1 hP hD hS q0 he hc k hk (hts _ hlink) (fun x h => h) hfin hmn hdecl hpd hn hfit hlen hd (fun H1 locs1 hP1 hD1 hS1 => (kk H1 locs1 ls (fun h => by cases hro0.symm.trans h) (hws ▸ hP1) (hws ▸ hD1) hS1 hl))
theorem g_iast (X : GX p l e R s m args below meth c D A nL cc own Ts) {cA : ClassId} {n a : Nat} {f : Nat → Int32} {i x : Int32} (ws' : va_W) (hro0 : ro = false) (hd : decode cc pc = .ok (.iastore, 1)) (q0 : Nat) (ha : ws[q0]? = some (a, .inl (cA, n, .inl f))) (hA : cA = D.2.1) (hin : vp_in i n) (hws : ws.set q0 (a, .inl (cA, n, .inl (upd f i.toNatClampNeg x))) = ws') (hp : pc + 1 = pc') (kk : GG p l e R s m args below meth c D A nL ro cs sl Q ws' pc' lv st) : GG p l e R s m args below meth c D A nL ro cs sl Q ws pc lv (.int x :: .int i :: .ref a :: st) := by
  subst hp
  obtain ⟨hx, hb, hml, hown, hts, hlk, hE⟩ := X
  intro H locs ls hro hP hD hS hl
  subst hA; exact va_iast hx hb hE.1 hP hD hS q0 0 ha rfl hin hd (fun H1 locs1 hP1 hD1 hS1 => (kk H1 locs1 ls (fun h => by cases hro0.symm.trans h) (hws ▸ hP1) (hws ▸ hD1) hS1 hl))
theorem g_cast (X : GX p l e R s m args below meth c D A nL cc own Ts) {cA : ClassId} {n a : Nat} {f : Nat → Int32} {i x : Int32} (ws' : va_W) (hro0 : ro = false) (hd : decode cc pc = .ok (.castore, 1)) (q0 : Nat) (ha : ws[q0]? = some (a, .inl (cA, n, .inl f))) (hA : cA = D.2.2.2.1) (hin : vp_in i n) (hws : ws.set q0 (a, .inl (cA, n, .inl (upd f i.toNatClampNeg (vp_nar .char x)))) = ws') (hp : pc + 1 = pc') (kk : GG p l e R s m args below meth c D A nL ro cs sl Q ws' pc' lv st) : GG p l e R s m args below meth c D A nL ro cs sl Q ws pc lv (.int x :: .int i :: .ref a :: st) := by
  subst hp
  obtain ⟨hx, hb, hml, hown, hts, hlk, hE⟩ := X
  intro H locs ls hro hP hD hS hl
  subst hA; exact va_cast hx hb hE.1 hP hD hS q0 2 ha rfl hin hd (fun H1 locs1 hP1 hD1 hS1 => (kk H1 locs1 ls (fun h => by cases hro0.symm.trans h) (hws ▸ hP1) (hws ▸ hD1) hS1 hl))
theorem g_aast (X : GX p l e R s m args below meth c D A nL cc own Ts) {cA : ClassId} {n a v ci : Nat} {r : vw_C} {vs : List Value} {f : Nat → Option Nat} {i : Int32} (ws' : va_W) (hro0 : ro = false) (hd : decode cc pc = .ok (.aastore, 1)) (q0 : Nat) (ha : ws[q0]? = some (a, .inl (cA, n, .inr (.inr (.inr (.inr f)))))) (hA : cA = D.2.2.2.2.1) (hr : r.1 = RX2) (qk : Nat) (hv : ws[qk]? = some (v, .inr (ci, vs))) (hc : vwCl[ci]? = some r) (hin : vp_in i n) (hws : ws.set q0 (a, .inl (cA, n, .inr (.inr (.inr (.inr (va_up f i.toNatClampNeg (some v))))))) = ws') (hp : pc + 1 = pc') (kk : GG p l e R s m args below meth c D A nL ro cs sl Q ws' pc' lv st) : GG p l e R s m args below meth c D A nL ro cs sl Q ws pc lv (.ref v :: .int i :: .ref a :: st) := by
  subst hp
  obtain ⟨hx, hb, hml, hown, hts, hlk, hE⟩ := X
  intro H locs ls hro hP hD hS hl
  subst hA; exact va_astq hx hb hE.1 hP hD hS q0 3 qk ci ha (by rw [hr]; rfl) hv hc hin hd (fun H1 locs1 hP1 hD1 hS1 => (kk H1 locs1 ls (fun h => by cases hro0.symm.trans h) (hws ▸ hP1) (hws ▸ hD1) hS1 hl))
theorem g_lv (ks : List Nat) (lv' : List (Nat × Value)) (h : lv_pick lv ks = lv') (kk : GG p l e R s m args below meth c D A nL ro cs sl Q ws pc lv' st) : GG p l e R s m args below meth c D A nL ro cs sl Q ws pc lv st := fun H locs ls hro hP hD hS hl => kk H locs ls hro hP hD hS (lv_sub hl ks h)
theorem g_widen (cs' sl' : Nat) (h1 : cs ≤ cs') (h2 : sl ≤ sl') (kk : GG p l e R s m args below meth c D A nL ro cs' sl' Q ws pc lv st) : GG p l e R s m args below meth c D A nL ro cs sl Q ws pc lv st := fun H locs ls hro hP hD hS hl => W.widen h1 h2 (kk H locs ls hro hP hD hS hl)
theorem g_retR (X : GX p l e R s m args below meth c D A nL cc own Ts) {v : Int32} {ty : FieldType} {post : Option Value → Prop} (hr : meth.sig.returnType = some ty) (hn : narrow ty (.int v) = .int v) (hd : decode cc pc = .ok (.ireturn, 1)) (hq : post (some (.int v))) : GG p l e R s m args below meth c D A nL true 0 0 (MQ below (roQ post) args s 0 0 (fun _ => False)) ws pc lv [.int v] := by
  obtain ⟨hx, hb, hml, hown, hts, hlk, hE⟩ := X
  intro H locs ls hro hP hD hS hl
  obtain ⟨h1, h2⟩ := hro rfl
  subst h2
  exact W.zret hx hb hr hn (fun t ht hw => ⟨_, rfl, hq, by rw [ht, h1]⟩) (fun q h => by cases h) hd hlk
theorem g_retW (X : GX p l e R s m args below meth c D A nL cc own Ts) {v : Int32} {ty : FieldType} {wc : va_W} {post : Option Value → va_W → Prop} (hr : meth.sig.returnType = some ty) (hn : narrow ty (.int v) = .int v) (hd : decode cc pc = .ok (.ireturn, 1)) (hA : A = va_A wc s.heap.size) (hq : post (some (.int v)) ws) : GG p l e R s m args below meth c D A nL ro cs sl (MQ below (wrQ D wc s.heap.size post) args s cs sl (va_A wc s.heap.size)) ws pc lv [.int v] := by
  obtain ⟨hx, hb, hml, hown, hts, hlk, hE⟩ := X
  intro H locs ls hro hP hD hS hl
  subst hA
  exact W.zret hx hb hr hn (fun t ht hw => ⟨⟨_, ws, rfl, hq, by rw [ht]; exact hP, hD⟩, hS.F ht⟩) hS.2.2 hd hlk
theorem g_lretR (X : GX p l e R s m args below meth c D A nL cc own Ts) {v : Int64} {post : Option Value → Prop} (hr : meth.sig.returnType = some .long) (hd : decode cc pc = .ok (.lreturn, 1)) (hq : post (some (.long v))) : GG p l e R s m args below meth c D A nL true 0 0 (MQ below (roQ post) args s 0 0 (fun _ => False)) ws pc lv [.long v] := by
  obtain ⟨hx, hb, hml, hown, hts, hlk, hE⟩ := X
  intro H locs ls hro hP hD hS hl
  obtain ⟨h1, h2⟩ := hro rfl
  subst h2
  exact W.lret hx hb hr (fun t ht hw => ⟨_, rfl, hq, by rw [ht, h1]⟩) (fun q h => by cases h) hd hlk
theorem g_lretW (X : GX p l e R s m args below meth c D A nL cc own Ts) {v : Int64} {wc : va_W} {post : Option Value → va_W → Prop} (hr : meth.sig.returnType = some .long) (hd : decode cc pc = .ok (.lreturn, 1)) (hA : A = va_A wc s.heap.size) (hq : post (some (.long v)) ws) : GG p l e R s m args below meth c D A nL ro cs sl (MQ below (wrQ D wc s.heap.size post) args s cs sl (va_A wc s.heap.size)) ws pc lv [.long v] := by
  obtain ⟨hx, hb, hml, hown, hts, hlk, hE⟩ := X
  intro H locs ls hro hP hD hS hl
  subst hA
  exact W.lret hx hb hr (fun t ht hw => ⟨⟨_, ws, rfl, hq, by rw [ht]; exact hP, hD⟩, hS.F ht⟩) hS.2.2 hd hlk
theorem g_vretR (X : GX p l e R s m args below meth c D A nL cc own Ts)  {post : Option Value → Prop} (hr : meth.sig.returnType = none) (hd : decode cc pc = .ok (.return_, 1)) (hq : post none) : GG p l e R s m args below meth c D A nL true 0 0 (MQ below (roQ post) args s 0 0 (fun _ => False)) ws pc lv [] := by
  obtain ⟨hx, hb, hml, hown, hts, hlk, hE⟩ := X
  intro H locs ls hro hP hD hS hl
  obtain ⟨h1, h2⟩ := hro rfl
  subst h2
  exact W.vret hx hb hr (fun t ht hw => ⟨_, rfl, hq, by rw [ht, h1]⟩) (fun q h => by cases h) hd hlk
theorem g_vretW (X : GX p l e R s m args below meth c D A nL cc own Ts)  {wc : va_W} {post : Option Value → va_W → Prop} (hr : meth.sig.returnType = none) (hd : decode cc pc = .ok (.return_, 1)) (hA : A = va_A wc s.heap.size) (hq : post none ws) : GG p l e R s m args below meth c D A nL ro cs sl (MQ below (wrQ D wc s.heap.size post) args s cs sl (va_A wc s.heap.size)) ws pc lv [] := by
  obtain ⟨hx, hb, hml, hown, hts, hlk, hE⟩ := X
  intro H locs ls hro hP hD hS hl
  subst hA
  exact W.vret hx hb hr (fun t ht hw => ⟨⟨_, ws, rfl, hq, by rw [ht]; exact hP, hD⟩, hS.F ht⟩) hS.2.2 hd hlk
theorem g_aretR (X : GX p l e R s m args below meth c D A nL cc own Ts) {v : Value} {rt : FieldType} {n : String} {post : Option Value → Prop} (hr : meth.sig.returnType = some rt) (hrt : rt = .object n) (hv : v = .null ∨ ∃ a, v = .ref a) (hd : decode cc pc = .ok (.areturn, 1)) (hq : post (some v)) : GG p l e R s m args below meth c D A nL true 0 0 (MQ below (roQ post) args s 0 0 (fun _ => False)) ws pc lv [v] := by
  obtain ⟨hx, hb, hml, hown, hts, hlk, hE⟩ := X
  intro H locs ls hro hP hD hS hl
  obtain ⟨h1, h2⟩ := hro rfl
  subst h2
  exact W.aret hx hb hr (Or.inl ⟨_, hrt⟩) hv (fun t ht hw => ⟨_, rfl, hq, by rw [ht, h1]⟩) (fun q h => by cases h) hd hlk
theorem g_aretW (X : GX p l e R s m args below meth c D A nL cc own Ts) {v : Value} {rt : FieldType} {n : String} {wc : va_W} {post : Option Value → va_W → Prop} (hr : meth.sig.returnType = some rt) (hrt : rt = .object n) (hv : v = .null ∨ ∃ a, v = .ref a) (hd : decode cc pc = .ok (.areturn, 1)) (hA : A = va_A wc s.heap.size) (hq : post (some v) ws) : GG p l e R s m args below meth c D A nL ro cs sl (MQ below (wrQ D wc s.heap.size post) args s cs sl (va_A wc s.heap.size)) ws pc lv [v] := by
  obtain ⟨hx, hb, hml, hown, hts, hlk, hE⟩ := X
  intro H locs ls hro hP hD hS hl
  subst hA
  exact W.aret hx hb hr (Or.inl ⟨_, hrt⟩) hv (fun t ht hw => ⟨⟨_, ws, rfl, hq, by rw [ht]; exact hP, hD⟩, hS.F ht⟩) hS.2.2 hd hlk
theorem g_callVR (X : GX p l e R s m args below meth c D A nL cc own Ts) {y : MethodName} {wsy wsy' : List Cond} {bytes : ByteArray} {maxL fr lo n index : Nat} {wc : va_W} {As rest : List Value} {ret : Option FieldType} {b : Nat} {C : String} {T : u_T} {N ci : Nat} {fs : List Value} {post : Option Value → Prop} (hM : MR l y wsy fr lo D (.ref b :: As) wc post) (hG : GoodIn Ts (wsV own index C y wsy)) (hw : wsy = Cond.code y bytes maxL ret :: wsy') (hdsc : y.cls = C ∧ y.cls ≠ "java/lang/invoke/MethodHandle" ∧ y.cls ≠ "java/lang/invoke/VarHandle" ∧ (parseMethodDescriptor y.desc).map (fun d => d.parameters.length) = some n) (hR : fr + 1 ≤ R.frames ∧ 8 + (maxL + 11) + lo ≤ R.locals) (hrec : wc[0]? = some (b, .inr (ci, fs))) (hcl : vwCl[ci]? = some (C, T, N)) (isC : List Nat) (hC : isC.map (fun i => ws[i]?) = wc.map some) (hnd : va_nd isC = true) (hn : As.length = n) (hst : st = As.reverse ++ .ref b :: rest) (hcat : (rest.map fun v => v.category).sum ≤ 8) (hd : decode cc pc = .ok (.invokevirtual index, 3)) (hroom : cs ≤ R.cells ∧ sl ≤ R.slots) (hp : pc + 3 = pc') (kk : ∀ v : Option Value, post v → GG p l e R s m args below meth c D A nL ro cs sl Q ws pc' lv (v.toList ++ rest)) : GG p l e R s m args below meth c D A nL ro cs sl Q ws pc lv st := by
  subst hp; subst hst
  obtain ⟨hx, hb, hml, hown, hts, hlk, hE⟩ := X
  intro H locs ls hro hP hD hS hl
  have hPc : va_P D.1 vwCl wc H := by
    intro k q hk
    have h3 : (isC.map (fun i => ws[i]?))[k]? = some (some q) := by rw [hC, List.getElem?_map, hk]; rfl
    rw [List.getElem?_map] at h3
    cases hi : isC[k]? with
    | none => rw [hi] at h3; cases h3
    | some i => rw [hi] at h3; exact hP i q (Option.some.inj h3)
  have hDc : va_D A wc := hD.sub isC hnd hC
  have hr : va_Run p l e R s m args below meth c H locs cs sl 0 0 (F0 m pc ls (As.reverse ++ .ref b :: rest)) rest ((roQ post) ((Value.ref b :: As)).toArray) (fun _ => False) := va_runV ⟨hx, hb, hml, hown, hts⟩ (hM A) (cwV n hts hG hw rfl rfl hdsc hR) ⟨roP_blind, va_recv hE.1 hPc hcl hrec, fun U hU hW => ⟨rfl, by rw [hU]; exact hPc, hDc, hE.call hS (fun q h => h) hU hW⟩⟩ rfl hn hl.1 rfl (lv_room hcat) hd hroom
  intro T hT X
  obtain ⟨v, st₀, t, T', L, e0, X', hL, e1, e2, ⟨v', hv, hp, hh⟩, stp⟩ := hr T hT X
  cases hv
  obtain ⟨t2, a1, b1⟩ := kk v hp H locs ls hro hP hD hS hl T' (by rw [e1, hh, e0]) (Stand.forget X' (fun q h => (hL q h).elim))
  exact ⟨t2, stp t2 a1, b1⟩
theorem g_callVW (X : GX p l e R s m args below meth c D A nL cc own Ts) {y : MethodName} {wsy wsy' : List Cond} {bytes : ByteArray} {maxL fr lo n index : Nat} {wc : va_W} {As rest : List Value} {ret : Option FieldType} {b : Nat} {C : String} {T : u_T} {N ci : Nat} {fs : List Value} {mc ms : Nat} {post : Option Value → va_W → Prop} (hA : ∀ q, s.heap.size ≤ q → A q) (hro0 : ro = false) (hM : MW l y wsy fr lo mc ms D (.ref b :: As) wc post) (hG : GoodIn Ts (wsV own index C y wsy)) (hw : wsy = Cond.code y bytes maxL ret :: wsy') (hdsc : y.cls = C ∧ y.cls ≠ "java/lang/invoke/MethodHandle" ∧ y.cls ≠ "java/lang/invoke/VarHandle" ∧ (parseMethodDescriptor y.desc).map (fun d => d.parameters.length) = some n) (hR : fr + 1 ≤ R.frames ∧ 8 + (maxL + 11) + lo ≤ R.locals) (hrec : wc[0]? = some (b, .inr (ci, fs))) (hcl : vwCl[ci]? = some (C, T, N)) (isC : List Nat) (hC : isC.map (fun i => ws[i]?) = wc.map some) (hnd : va_nd isC = true) (hn : As.length = n) (hst : st = As.reverse ++ .ref b :: rest) (hcat : (rest.map fun v => v.category).sum ≤ 8) (hd : decode cc pc = .ok (.invokevirtual index, 3)) (hroom : cs + mc ≤ R.cells ∧ sl + ms ≤ R.slots) (hp : pc + 3 = pc') (kk : ∀ (v : Option Value) (w : va_W), post v w → w.map Prod.fst = wc.map Prod.fst ∧ GG p l e R s m args below meth c D A nL ro (cs + mc) (sl + ms) Q (wput ws isC w) pc' lv (v.toList ++ rest)) : GG p l e R s m args below meth c D A nL ro cs sl Q ws pc lv st := by
  subst hp; subst hst
  obtain ⟨hx, hb, hml, hown, hts, hlk, hE⟩ := X
  intro H locs ls hro hP hD hS hl
  have hPc : va_P D.1 vwCl wc H := by
    intro k q hk
    have h3 : (isC.map (fun i => ws[i]?))[k]? = some (some q) := by rw [hC, List.getElem?_map, hk]; rfl
    rw [List.getElem?_map] at h3
    cases hi : isC[k]? with
    | none => rw [hi] at h3; cases h3
    | some i => rw [hi] at h3; exact hP i q (Option.some.inj h3)
  have hDc : va_D (va_A wc H.size) wc := (hD.sub isC hnd hC).self
  have hFc := va_free (wc := wc) hD hS hA isC hC
  have hr : va_Run p l e R s m args below meth c H locs cs sl mc ms (F0 m pc ls (As.reverse ++ .ref b :: rest)) rest ((wrQ D wc H.size post) ((Value.ref b :: As)).toArray) (va_A wc H.size) := va_runV ⟨hx, hb, hml, hown, hts⟩ (hM H.size) (cwV n hts hG hw rfl rfl hdsc hR) ⟨wrP_blind, va_recv hE.1 hPc hcl hrec, fun U hU hW => ⟨rfl, by rw [hU], by rw [hU]; exact hPc, hDc, hE.call hS (fun q h => hFc q h) hU hW⟩⟩ rfl hn hl.1 rfl (lv_room hcat) hd hroom
  intro T hT X
  obtain ⟨v, st₀, t, T', L, e0, X', hL, e1, e2, ⟨⟨v', w, hv, hp, hPw, hDw⟩, hz, hk⟩, stp⟩ := hr T hT X
  cases hv
  rw [e0] at hz hk
  have hS1 : va_S A s.heap t.heap (locs ++ L) := ⟨Nat.le_trans hS.1 hz, fun q h1 h2 => by rw [hk q (Nat.lt_of_lt_of_le h1 hS.1) (fun z => h2 (hFc q z))]; exact hS.2.1 q h1 h2, fun q hq => by
      rcases List.mem_append.mp hq with h | h
      · exact hS.2.2 q h
      · exact hFc _ (hL q h)⟩
  obtain ⟨hw0, kk⟩ := kk v w hp
  obtain ⟨t2, a1, b1⟩ := kk t.heap (locs ++ L) ls (fun h => by cases hro0.symm.trans h) (wput_join hP hD isC hC hw0 hk hPw) (wput_D hC hw0 hD) hS1 hl T' e1 X'
  exact ⟨t2, stp t2 a1, b1⟩
theorem g_callVA (X : GX p l e R s m args below meth c D A nL cc own Ts) {y : MethodName} {wsy wsy' : List Cond} {bytes : ByteArray} {maxL fr lo n index : Nat} {wc : va_W} {As rest : List Value} {ret : Option FieldType} {b : Nat} {C : String} {T : u_T} {N ci : Nat} {fs : List Value} {mc ms : Nat} {post : Option Value → va_W → Prop} (hA : ∀ q, s.heap.size ≤ q → A q) (hro0 : ro = false) (hM : MW l y wsy fr lo mc ms D (.ref b :: As) wc post) (hG : GoodIn Ts (wsV own index C y wsy)) (hw : wsy = Cond.code y bytes maxL ret :: wsy') (hdsc : y.cls = C ∧ y.cls ≠ "java/lang/invoke/MethodHandle" ∧ y.cls ≠ "java/lang/invoke/VarHandle" ∧ (parseMethodDescriptor y.desc).map (fun d => d.parameters.length) = some n) (hR : fr + 1 ≤ R.frames ∧ 8 + (maxL + 11) + lo ≤ R.locals) (hrec : wc[0]? = some (b, .inr (ci, fs))) (hcl : vwCl[ci]? = some (C, T, N)) (isC : List Nat) (hC : isC.map (fun i => ws[i]?) = wc.map some) (hnd : va_nd isC = true) (hn : As.length = n) (hst : st = As.reverse ++ .ref b :: rest) (hcat : (rest.map fun v => v.category).sum ≤ 8) (hd : decode cc pc = .ok (.invokevirtual index, 3)) (hroom : cs + mc ≤ R.cells ∧ sl + ms ≤ R.slots) (hp : pc + 3 = pc') (kk : ∀ (v : Option Value) (w : va_W), post v w → ∃ w1 w2 : va_W, w = w1 ++ w2 ∧ w1.map Prod.fst = wc.map Prod.fst ∧ GG p l e R s m args below meth c D A nL ro (cs + mc) (sl + ms) Q (wput ws isC w1 ++ w2) pc' lv (v.toList ++ rest)) : GG p l e R s m args below meth c D A nL ro cs sl Q ws pc lv st := by
  subst hp; subst hst
  obtain ⟨hx, hb, hml, hown, hts, hlk, hE⟩ := X
  intro H locs ls hro hP hD hS hl
  have hPc : va_P D.1 vwCl wc H := by
    intro k q hk
    have h3 : (isC.map (fun i => ws[i]?))[k]? = some (some q) := by rw [hC, List.getElem?_map, hk]; rfl
    rw [List.getElem?_map] at h3
    cases hi : isC[k]? with
    | none => rw [hi] at h3; cases h3
    | some i => rw [hi] at h3; exact hP i q (Option.some.inj h3)
  have hDc : va_D (va_A wc H.size) wc := (hD.sub isC hnd hC).self
  have hFc := va_free (wc := wc) hD hS hA isC hC
  have hr : va_Run p l e R s m args below meth c H locs cs sl mc ms (F0 m pc ls (As.reverse ++ .ref b :: rest)) rest ((wrQ D wc H.size post) ((Value.ref b :: As)).toArray) (va_A wc H.size) := va_runV ⟨hx, hb, hml, hown, hts⟩ (hM H.size) (cwV n hts hG hw rfl rfl hdsc hR) ⟨wrP_blind, va_recv hE.1 hPc hcl hrec, fun U hU hW => ⟨rfl, by rw [hU], by rw [hU]; exact hPc, hDc, hE.call hS (fun q h => hFc q h) hU hW⟩⟩ rfl hn hl.1 rfl (lv_room hcat) hd hroom
  intro T hT X
  obtain ⟨v, st₀, t, T', L, e0, X', hL, e1, e2, ⟨⟨v', w, hv, hp, hPw, hDw⟩, hz, hk⟩, stp⟩ := hr T hT X
  cases hv
  rw [e0] at hz hk
  have hS1 : va_S A s.heap t.heap (locs ++ L) := ⟨Nat.le_trans hS.1 hz, fun q h1 h2 => by rw [hk q (Nat.lt_of_lt_of_le h1 hS.1) (fun z => h2 (hFc q z))]; exact hS.2.1 q h1 h2, fun q hq => by
      rcases List.mem_append.mp hq with h | h
      · exact hS.2.2 q h
      · exact hFc _ (hL q h)⟩
  obtain ⟨w1, w2, hw12, hw0, kk⟩ := kk v w hp
  subst hw12
  have hP1 : va_P D.1 vwCl w1 t.heap := fun k q h => hPw k q (by rw [List.getElem?_append_left (List.getElem?_eq_some_iff.mp h).1]; exact h)
  have hP2 : va_P D.1 vwCl w2 t.heap := fun k q h => hPw (w1.length + k) q (by rw [List.getElem?_append_right (by omega)]; simpa using h)
  have hD2 : va_D (va_A wc H.size) w2 := ⟨fun i j x y hi hj hxy => by
    have := hDw.1 (w1.length + i) (w1.length + j) x y (by rw [List.getElem?_append_right (by omega)]; simpa using hi) (by rw [List.getElem?_append_right (by omega)]; simpa using hj) hxy
    omega, fun k q h => hDw.2 (w1.length + k) q (by rw [List.getElem?_append_right (by omega)]; simpa using h)⟩
  have hDp := wput_D hC hw0 hD
  have hap : ∀ (i j : Nat) (x y : Nat × va_E), (wput ws isC w1)[i]? = some x → w2[j]? = some y → x.1 ≠ y.1 := by
    intro i j x y hi hj hxy
    have hj' : (w1 ++ w2)[w1.length + j]? = some y := by rw [List.getElem?_append_right (by omega)]; simpa using hj
    obtain ⟨ex, hex⟩ := (wput_old (A := A) hC hw0).2 i x hi
    rcases hDw.2 _ y hj' with ⟨k, e5, h5⟩ | h5
    · -- y's address is an old one of wc: then it is in w1
      have h6 : (w1.map Prod.fst)[k]? = some y.1 := by rw [hw0, List.getElem?_map, h5]; rfl
      rw [List.getElem?_map] at h6
      cases h7 : w1[k]? with
      | none => rw [h7] at h6; cases h6
      | some z =>
        rw [h7] at h6
        have h8 : (w1 ++ w2)[k]? = some z := by rw [List.getElem?_append_left (List.getElem?_eq_some_iff.mp h7).1]; exact h7
        have h9 := hDw.1 k (w1.length + j) z y h8 hj' (Option.some.inj h6)
        have h10 := (List.getElem?_eq_some_iff.mp h7).1
        omega
    · have h6 := (hP i _ hex).lt
      simp only [hxy] at h6
      omega
  obtain ⟨t2, a1, b1⟩ := kk t.heap (locs ++ L) ls (fun h => by cases hro0.symm.trans h) (va_P.app (wput_join hP hD isC hC hw0 hk hP1) hP2) (va_D.app hDp (hD2.weaken (fun k q _ h => hFc q.1 h)) hap) hS1 hl T' e1 X'
  exact ⟨t2, stp t2 a1, b1⟩
theorem g_callIW (X : GX p l e R s m args below meth c D A nL cc own Ts) {y : MethodName} {wsy wsy' : List Cond} {bytes : ByteArray} {maxL fr lo n index : Nat} {wc : va_W} {As rest : List Value} {b : Nat} {mc ms : Nat} {post : Option Value → va_W → Prop} (hA : ∀ q, s.heap.size ≤ q → A q) (hro0 : ro = false) (hM : MW l y wsy fr lo mc ms D (.ref b :: As) wc post) (hG : GoodIn Ts wsy) (hini : Cond.initialized y.cls ∈ Ts) (hlink : Cond.methodLink own index y ∈ Ts) (hinst : Cond.instanceMethod y ∈ Ts) (hy1 : y.name = "<init>") (hw : wsy = Cond.code y bytes maxL none :: wsy') (hdsc : y.cls ≠ "java/lang/invoke/MethodHandle" ∧ y.cls ≠ "java/lang/invoke/VarHandle" ∧ (parseMethodDescriptor y.desc).map (fun d => d.parameters.length) = some n) (hR : fr + 1 ≤ R.frames ∧ 8 + (maxL + 11) + lo ≤ R.locals) (isC : List Nat) (hC : isC.map (fun i => ws[i]?) = wc.map some) (hnd : va_nd isC = true) (hn : As.length = n) (hst : st = As.reverse ++ .ref b :: rest) (hcat : (rest.map fun v => v.category).sum ≤ 8) (hd : decode cc pc = .ok (.invokespecial index, 3)) (hroom : cs + mc ≤ R.cells ∧ sl + ms ≤ R.slots) (hp : pc + 3 = pc') (kk : ∀ (v : Option Value) (w : va_W), post v w → w.map Prod.fst = wc.map Prod.fst ∧ GG p l e R s m args below meth c D A nL ro (cs + mc) (sl + ms) Q (wput ws isC w) pc' lv (v.toList ++ rest)) : GG p l e R s m args below meth c D A nL ro cs sl Q ws pc lv st := by
  subst hp; subst hst
  obtain ⟨hx, hb, hml, hown, hts, hlk, hE⟩ := X
  intro H locs ls hro hP hD hS hl
  have hPc : va_P D.1 vwCl wc H := by
    intro k q hk
    have h3 : (isC.map (fun i => ws[i]?))[k]? = some (some q) := by rw [hC, List.getElem?_map, hk]; rfl
    rw [List.getElem?_map] at h3
    cases hi : isC[k]? with
    | none => rw [hi] at h3; cases h3
    | some i => rw [hi] at h3; exact hP i q (Option.some.inj h3)
  have hDc : va_D (va_A wc H.size) wc := (hD.sub isC hnd hC).self
  have hFc := va_free (wc := wc) hD hS hA isC hC
  have hr : va_Run p l e R s m args below meth c H locs cs sl mc ms (F0 m pc ls (As.reverse ++ .ref b :: rest)) rest ((wrQ D wc H.size post) ((Value.ref b :: As)).toArray) (va_A wc H.size) := va_runI ⟨hx, hb, hml, hown, hts⟩ (hM H.size) (cwI n hts hG hw rfl rfl (hts _ hini) (hts _ hlink) (hts _ hinst) hy1 hdsc hR) ⟨wrP_blind, fun U hU hW => ⟨rfl, by rw [hU], by rw [hU]; exact hPc, hDc, hE.call hS (fun q h => hFc q h) hU hW⟩⟩ rfl hn hl.1 rfl (lv_room hcat) hd hroom
  intro T hT X
  obtain ⟨v, st₀, t, T', L, e0, X', hL, e1, e2, ⟨⟨v', w, hv, hp, hPw, hDw⟩, hz, hk⟩, stp⟩ := hr T hT X
  cases hv
  rw [e0] at hz hk
  have hS1 : va_S A s.heap t.heap (locs ++ L) := ⟨Nat.le_trans hS.1 hz, fun q h1 h2 => by rw [hk q (Nat.lt_of_lt_of_le h1 hS.1) (fun z => h2 (hFc q z))]; exact hS.2.1 q h1 h2, fun q hq => by
      rcases List.mem_append.mp hq with h | h
      · exact hS.2.2 q h
      · exact hFc _ (hL q h)⟩
  obtain ⟨hw0, kk⟩ := kk v w hp
  obtain ⟨t2, a1, b1⟩ := kk t.heap (locs ++ L) ls (fun h => by cases hro0.symm.trans h) (wput_join hP hD isC hC hw0 hk hPw) (wput_D hC hw0 hD) hS1 hl T' e1 X'
  exact ⟨t2, stp t2 a1, b1⟩
theorem g_callIA (X : GX p l e R s m args below meth c D A nL cc own Ts) {y : MethodName} {wsy wsy' : List Cond} {bytes : ByteArray} {maxL fr lo n index : Nat} {wc : va_W} {As rest : List Value} {b : Nat} {mc ms : Nat} {post : Option Value → va_W → Prop} (hA : ∀ q, s.heap.size ≤ q → A q) (hro0 : ro = false) (hM : MW l y wsy fr lo mc ms D (.ref b :: As) wc post) (hG : GoodIn Ts wsy) (hini : Cond.initialized y.cls ∈ Ts) (hlink : Cond.methodLink own index y ∈ Ts) (hinst : Cond.instanceMethod y ∈ Ts) (hy1 : y.name = "<init>") (hw : wsy = Cond.code y bytes maxL none :: wsy') (hdsc : y.cls ≠ "java/lang/invoke/MethodHandle" ∧ y.cls ≠ "java/lang/invoke/VarHandle" ∧ (parseMethodDescriptor y.desc).map (fun d => d.parameters.length) = some n) (hR : fr + 1 ≤ R.frames ∧ 8 + (maxL + 11) + lo ≤ R.locals) (isC : List Nat) (hC : isC.map (fun i => ws[i]?) = wc.map some) (hnd : va_nd isC = true) (hn : As.length = n) (hst : st = As.reverse ++ .ref b :: rest) (hcat : (rest.map fun v => v.category).sum ≤ 8) (hd : decode cc pc = .ok (.invokespecial index, 3)) (hroom : cs + mc ≤ R.cells ∧ sl + ms ≤ R.slots) (hp : pc + 3 = pc') (kk : ∀ (v : Option Value) (w : va_W), post v w → ∃ w1 w2 : va_W, w = w1 ++ w2 ∧ w1.map Prod.fst = wc.map Prod.fst ∧ GG p l e R s m args below meth c D A nL ro (cs + mc) (sl + ms) Q (wput ws isC w1 ++ w2) pc' lv (v.toList ++ rest)) : GG p l e R s m args below meth c D A nL ro cs sl Q ws pc lv st := by
  subst hp; subst hst
  obtain ⟨hx, hb, hml, hown, hts, hlk, hE⟩ := X
  intro H locs ls hro hP hD hS hl
  have hPc : va_P D.1 vwCl wc H := by
    intro k q hk
    have h3 : (isC.map (fun i => ws[i]?))[k]? = some (some q) := by rw [hC, List.getElem?_map, hk]; rfl
    rw [List.getElem?_map] at h3
    cases hi : isC[k]? with
    | none => rw [hi] at h3; cases h3
    | some i => rw [hi] at h3; exact hP i q (Option.some.inj h3)
  have hDc : va_D (va_A wc H.size) wc := (hD.sub isC hnd hC).self
  have hFc := va_free (wc := wc) hD hS hA isC hC
  have hr : va_Run p l e R s m args below meth c H locs cs sl mc ms (F0 m pc ls (As.reverse ++ .ref b :: rest)) rest ((wrQ D wc H.size post) ((Value.ref b :: As)).toArray) (va_A wc H.size) := va_runI ⟨hx, hb, hml, hown, hts⟩ (hM H.size) (cwI n hts hG hw rfl rfl (hts _ hini) (hts _ hlink) (hts _ hinst) hy1 hdsc hR) ⟨wrP_blind, fun U hU hW => ⟨rfl, by rw [hU], by rw [hU]; exact hPc, hDc, hE.call hS (fun q h => hFc q h) hU hW⟩⟩ rfl hn hl.1 rfl (lv_room hcat) hd hroom
  intro T hT X
  obtain ⟨v, st₀, t, T', L, e0, X', hL, e1, e2, ⟨⟨v', w, hv, hp, hPw, hDw⟩, hz, hk⟩, stp⟩ := hr T hT X
  cases hv
  rw [e0] at hz hk
  have hS1 : va_S A s.heap t.heap (locs ++ L) := ⟨Nat.le_trans hS.1 hz, fun q h1 h2 => by rw [hk q (Nat.lt_of_lt_of_le h1 hS.1) (fun z => h2 (hFc q z))]; exact hS.2.1 q h1 h2, fun q hq => by
      rcases List.mem_append.mp hq with h | h
      · exact hS.2.2 q h
      · exact hFc _ (hL q h)⟩
  obtain ⟨w1, w2, hw12, hw0, kk⟩ := kk v w hp
  subst hw12
  have hP1 : va_P D.1 vwCl w1 t.heap := fun k q h => hPw k q (by rw [List.getElem?_append_left (List.getElem?_eq_some_iff.mp h).1]; exact h)
  have hP2 : va_P D.1 vwCl w2 t.heap := fun k q h => hPw (w1.length + k) q (by rw [List.getElem?_append_right (by omega)]; simpa using h)
  have hD2 : va_D (va_A wc H.size) w2 := ⟨fun i j x y hi hj hxy => by
    have := hDw.1 (w1.length + i) (w1.length + j) x y (by rw [List.getElem?_append_right (by omega)]; simpa using hi) (by rw [List.getElem?_append_right (by omega)]; simpa using hj) hxy
    omega, fun k q h => hDw.2 (w1.length + k) q (by rw [List.getElem?_append_right (by omega)]; simpa using h)⟩
  have hDp := wput_D hC hw0 hD
  have hap : ∀ (i j : Nat) (x y : Nat × va_E), (wput ws isC w1)[i]? = some x → w2[j]? = some y → x.1 ≠ y.1 := by
    intro i j x y hi hj hxy
    have hj' : (w1 ++ w2)[w1.length + j]? = some y := by rw [List.getElem?_append_right (by omega)]; simpa using hj
    obtain ⟨ex, hex⟩ := (wput_old (A := A) hC hw0).2 i x hi
    rcases hDw.2 _ y hj' with ⟨k, e5, h5⟩ | h5
    · -- y's address is an old one of wc: then it is in w1
      have h6 : (w1.map Prod.fst)[k]? = some y.1 := by rw [hw0, List.getElem?_map, h5]; rfl
      rw [List.getElem?_map] at h6
      cases h7 : w1[k]? with
      | none => rw [h7] at h6; cases h6
      | some z =>
        rw [h7] at h6
        have h8 : (w1 ++ w2)[k]? = some z := by rw [List.getElem?_append_left (List.getElem?_eq_some_iff.mp h7).1]; exact h7
        have h9 := hDw.1 k (w1.length + j) z y h8 hj' (Option.some.inj h6)
        have h10 := (List.getElem?_eq_some_iff.mp h7).1
        omega
    · have h6 := (hP i _ hex).lt
      simp only [hxy] at h6
      omega
  obtain ⟨t2, a1, b1⟩ := kk t.heap (locs ++ L) ls (fun h => by cases hro0.symm.trans h) (va_P.app (wput_join hP hD isC hC hw0 hk hP1) hP2) (va_D.app hDp (hD2.weaken (fun k q _ h => hFc q.1 h)) hap) hS1 hl T' e1 X'
  exact ⟨t2, stp t2 a1, b1⟩
theorem g_callINW (X : GX p l e R s m args below meth c D A nL cc own Ts) {y : MethodName} {wsy wsy' : List Cond} {bytes : ByteArray} {maxL fr lo n index : Nat} {wc : va_W} {As rest : List Value} {b : Nat} {mc ms : Nat} {post : Option Value → va_W → Prop} (hA : ∀ q, s.heap.size ≤ q → A q) (hro0 : ro = false) (hM : MW l y wsy fr lo mc ms D (.ref b :: As) wc post) (hG : GoodIn Ts wsy) (hini : Cond.initialized y.cls ∈ Ts) (hnest : Cond.methodLinkNest own index y "VisaPages" ∈ nwL) (hinst : Cond.instanceMethod y ∈ Ts) (hy1 : y.name = "<init>") (hw : wsy = Cond.code y bytes maxL none :: wsy') (hdsc : y.cls ≠ "java/lang/invoke/MethodHandle" ∧ y.cls ≠ "java/lang/invoke/VarHandle" ∧ (parseMethodDescriptor y.desc).map (fun d => d.parameters.length) = some n) (hR : fr + 1 ≤ R.frames ∧ 8 + (maxL + 11) + lo ≤ R.locals) (isC : List Nat) (hC : isC.map (fun i => ws[i]?) = wc.map some) (hnd : va_nd isC = true) (hn : As.length = n) (hst : st = As.reverse ++ .ref b :: rest) (hcat : (rest.map fun v => v.category).sum ≤ 8) (hd : decode cc pc = .ok (.invokespecial index, 3)) (hroom : cs + mc ≤ R.cells ∧ sl + ms ≤ R.slots) (hp : pc + 3 = pc') (kk : ∀ (v : Option Value) (w : va_W), post v w → w.map Prod.fst = wc.map Prod.fst ∧ GG p l e R s m args below meth c D A nL ro (cs + mc) (sl + ms) Q (wput ws isC w) pc' lv (v.toList ++ rest)) : GG p l e R s m args below meth c D A nL ro cs sl Q ws pc lv st := by
  subst hp; subst hst
  obtain ⟨hx, hb, hml, hown, hts, hlk, hE⟩ := X
  intro H locs ls hro hP hD hS hl
  have hPc : va_P D.1 vwCl wc H := by
    intro k q hk
    have h3 : (isC.map (fun i => ws[i]?))[k]? = some (some q) := by rw [hC, List.getElem?_map, hk]; rfl
    rw [List.getElem?_map] at h3
    cases hi : isC[k]? with
    | none => rw [hi] at h3; cases h3
    | some i => rw [hi] at h3; exact hP i q (Option.some.inj h3)
  have hDc : va_D (va_A wc H.size) wc := (hD.sub isC hnd hC).self
  have hFc := va_free (wc := wc) hD hS hA isC hC
  have hr : va_Run p l e R s m args below meth c H locs cs sl mc ms (F0 m pc ls (As.reverse ++ .ref b :: rest)) rest ((wrQ D wc H.size post) ((Value.ref b :: As)).toArray) (va_A wc H.size) := va_runIN ⟨hx, hb, hml, hown, hts⟩ (hM H.size) ⟨va_cnB n hts hG hw rfl rfl (hE.2.1 _ hnest) (hts _ hini) hdsc hR, hy1, hts _ hinst⟩ ⟨wrP_blind, fun U hU hW => ⟨rfl, by rw [hU], by rw [hU]; exact hPc, hDc, hE.call hS (fun q h => hFc q h) hU hW⟩⟩ rfl hn hl.1 rfl (lv_room hcat) hd hroom
  intro T hT X
  obtain ⟨v, st₀, t, T', L, e0, X', hL, e1, e2, ⟨⟨v', w, hv, hp, hPw, hDw⟩, hz, hk⟩, stp⟩ := hr T hT X
  cases hv
  rw [e0] at hz hk
  have hS1 : va_S A s.heap t.heap (locs ++ L) := ⟨Nat.le_trans hS.1 hz, fun q h1 h2 => by rw [hk q (Nat.lt_of_lt_of_le h1 hS.1) (fun z => h2 (hFc q z))]; exact hS.2.1 q h1 h2, fun q hq => by
      rcases List.mem_append.mp hq with h | h
      · exact hS.2.2 q h
      · exact hFc _ (hL q h)⟩
  obtain ⟨hw0, kk⟩ := kk v w hp
  obtain ⟨t2, a1, b1⟩ := kk t.heap (locs ++ L) ls (fun h => by cases hro0.symm.trans h) (wput_join hP hD isC hC hw0 hk hPw) (wput_D hC hw0 hD) hS1 hl T' e1 X'
  exact ⟨t2, stp t2 a1, b1⟩
theorem g_callINA (X : GX p l e R s m args below meth c D A nL cc own Ts) {y : MethodName} {wsy wsy' : List Cond} {bytes : ByteArray} {maxL fr lo n index : Nat} {wc : va_W} {As rest : List Value} {b : Nat} {mc ms : Nat} {post : Option Value → va_W → Prop} (hA : ∀ q, s.heap.size ≤ q → A q) (hro0 : ro = false) (hM : MW l y wsy fr lo mc ms D (.ref b :: As) wc post) (hG : GoodIn Ts wsy) (hini : Cond.initialized y.cls ∈ Ts) (hnest : Cond.methodLinkNest own index y "VisaPages" ∈ nwL) (hinst : Cond.instanceMethod y ∈ Ts) (hy1 : y.name = "<init>") (hw : wsy = Cond.code y bytes maxL none :: wsy') (hdsc : y.cls ≠ "java/lang/invoke/MethodHandle" ∧ y.cls ≠ "java/lang/invoke/VarHandle" ∧ (parseMethodDescriptor y.desc).map (fun d => d.parameters.length) = some n) (hR : fr + 1 ≤ R.frames ∧ 8 + (maxL + 11) + lo ≤ R.locals) (isC : List Nat) (hC : isC.map (fun i => ws[i]?) = wc.map some) (hnd : va_nd isC = true) (hn : As.length = n) (hst : st = As.reverse ++ .ref b :: rest) (hcat : (rest.map fun v => v.category).sum ≤ 8) (hd : decode cc pc = .ok (.invokespecial index, 3)) (hroom : cs + mc ≤ R.cells ∧ sl + ms ≤ R.slots) (hp : pc + 3 = pc') (kk : ∀ (v : Option Value) (w : va_W), post v w → ∃ w1 w2 : va_W, w = w1 ++ w2 ∧ w1.map Prod.fst = wc.map Prod.fst ∧ GG p l e R s m args below meth c D A nL ro (cs + mc) (sl + ms) Q (wput ws isC w1 ++ w2) pc' lv (v.toList ++ rest)) : GG p l e R s m args below meth c D A nL ro cs sl Q ws pc lv st := by
  subst hp; subst hst
  obtain ⟨hx, hb, hml, hown, hts, hlk, hE⟩ := X
  intro H locs ls hro hP hD hS hl
  have hPc : va_P D.1 vwCl wc H := by
    intro k q hk
    have h3 : (isC.map (fun i => ws[i]?))[k]? = some (some q) := by rw [hC, List.getElem?_map, hk]; rfl
    rw [List.getElem?_map] at h3
    cases hi : isC[k]? with
    | none => rw [hi] at h3; cases h3
    | some i => rw [hi] at h3; exact hP i q (Option.some.inj h3)
  have hDc : va_D (va_A wc H.size) wc := (hD.sub isC hnd hC).self
  have hFc := va_free (wc := wc) hD hS hA isC hC
  have hr : va_Run p l e R s m args below meth c H locs cs sl mc ms (F0 m pc ls (As.reverse ++ .ref b :: rest)) rest ((wrQ D wc H.size post) ((Value.ref b :: As)).toArray) (va_A wc H.size) := va_runIN ⟨hx, hb, hml, hown, hts⟩ (hM H.size) ⟨va_cnB n hts hG hw rfl rfl (hE.2.1 _ hnest) (hts _ hini) hdsc hR, hy1, hts _ hinst⟩ ⟨wrP_blind, fun U hU hW => ⟨rfl, by rw [hU], by rw [hU]; exact hPc, hDc, hE.call hS (fun q h => hFc q h) hU hW⟩⟩ rfl hn hl.1 rfl (lv_room hcat) hd hroom
  intro T hT X
  obtain ⟨v, st₀, t, T', L, e0, X', hL, e1, e2, ⟨⟨v', w, hv, hp, hPw, hDw⟩, hz, hk⟩, stp⟩ := hr T hT X
  cases hv
  rw [e0] at hz hk
  have hS1 : va_S A s.heap t.heap (locs ++ L) := ⟨Nat.le_trans hS.1 hz, fun q h1 h2 => by rw [hk q (Nat.lt_of_lt_of_le h1 hS.1) (fun z => h2 (hFc q z))]; exact hS.2.1 q h1 h2, fun q hq => by
      rcases List.mem_append.mp hq with h | h
      · exact hS.2.2 q h
      · exact hFc _ (hL q h)⟩
  obtain ⟨w1, w2, hw12, hw0, kk⟩ := kk v w hp
  subst hw12
  have hP1 : va_P D.1 vwCl w1 t.heap := fun k q h => hPw k q (by rw [List.getElem?_append_left (List.getElem?_eq_some_iff.mp h).1]; exact h)
  have hP2 : va_P D.1 vwCl w2 t.heap := fun k q h => hPw (w1.length + k) q (by rw [List.getElem?_append_right (by omega)]; simpa using h)
  have hD2 : va_D (va_A wc H.size) w2 := ⟨fun i j x y hi hj hxy => by
    have := hDw.1 (w1.length + i) (w1.length + j) x y (by rw [List.getElem?_append_right (by omega)]; simpa using hi) (by rw [List.getElem?_append_right (by omega)]; simpa using hj) hxy
    omega, fun k q h => hDw.2 (w1.length + k) q (by rw [List.getElem?_append_right (by omega)]; simpa using h)⟩
  have hDp := wput_D hC hw0 hD
  have hap : ∀ (i j : Nat) (x y : Nat × va_E), (wput ws isC w1)[i]? = some x → w2[j]? = some y → x.1 ≠ y.1 := by
    intro i j x y hi hj hxy
    have hj' : (w1 ++ w2)[w1.length + j]? = some y := by rw [List.getElem?_append_right (by omega)]; simpa using hj
    obtain ⟨ex, hex⟩ := (wput_old (A := A) hC hw0).2 i x hi
    rcases hDw.2 _ y hj' with ⟨k, e5, h5⟩ | h5
    · -- y's address is an old one of wc: then it is in w1
      have h6 : (w1.map Prod.fst)[k]? = some y.1 := by rw [hw0, List.getElem?_map, h5]; rfl
      rw [List.getElem?_map] at h6
      cases h7 : w1[k]? with
      | none => rw [h7] at h6; cases h6
      | some z =>
        rw [h7] at h6
        have h8 : (w1 ++ w2)[k]? = some z := by rw [List.getElem?_append_left (List.getElem?_eq_some_iff.mp h7).1]; exact h7
        have h9 := hDw.1 k (w1.length + j) z y h8 hj' (Option.some.inj h6)
        have h10 := (List.getElem?_eq_some_iff.mp h7).1
        omega
    · have h6 := (hP i _ hex).lt
      simp only [hxy] at h6
      omega
  obtain ⟨t2, a1, b1⟩ := kk t.heap (locs ++ L) ls (fun h => by cases hro0.symm.trans h) (va_P.app (wput_join hP hD isC hC hw0 hk hP1) hP2) (va_D.app hDp (hD2.weaken (fun k q _ h => hFc q.1 h)) hap) hS1 hl T' e1 X'
  exact ⟨t2, stp t2 a1, b1⟩
theorem g_callSR (X : GX p l e R s m args below meth c D A nL cc own Ts) {y : MethodName} {wsy wsy' : List Cond} {bytes : ByteArray} {maxL fr lo n index : Nat} {wc : va_W} {As rest : List Value} {ret : Option FieldType} {post : Option Value → Prop} (hM : MR l y wsy fr lo D As wc post) (hG : GoodIn Ts (va_wsS own index y wsy)) (hw : wsy = Cond.code y bytes maxL ret :: wsy') (hdsc : y.cls ≠ "java/lang/invoke/MethodHandle" ∧ y.cls ≠ "java/lang/invoke/VarHandle" ∧ (parseMethodDescriptor y.desc).map (fun d => d.parameters.length) = some n) (hR : fr + 1 ≤ R.frames ∧ 8 + (maxL + 11) + lo ≤ R.locals) (isC : List Nat) (hC : isC.map (fun i => ws[i]?) = wc.map some) (hnd : va_nd isC = true) (hn : As.length = n) (hst : st = As.reverse ++ rest) (hcat : (rest.map fun v => v.category).sum ≤ 8) (hd : decode cc pc = .ok (.invokestatic index, 3)) (hroom : cs ≤ R.cells ∧ sl ≤ R.slots) (hp : pc + 3 = pc') (kk : ∀ v : Option Value, post v → GG p l e R s m args below meth c D A nL ro cs sl Q ws pc' lv (v.toList ++ rest)) : GG p l e R s m args below meth c D A nL ro cs sl Q ws pc lv st := by
  subst hp; subst hst
  obtain ⟨hx, hb, hml, hown, hts, hlk, hE⟩ := X
  intro H locs ls hro hP hD hS hl
  have hPc : va_P D.1 vwCl wc H := by
    intro k q hk
    have h3 : (isC.map (fun i => ws[i]?))[k]? = some (some q) := by rw [hC, List.getElem?_map, hk]; rfl
    rw [List.getElem?_map] at h3
    cases hi : isC[k]? with
    | none => rw [hi] at h3; cases h3
    | some i => rw [hi] at h3; exact hP i q (Option.some.inj h3)
  have hDc : va_D A wc := hD.sub isC hnd hC
  have hr : va_Run p l e R s m args below meth c H locs cs sl 0 0 (F0 m pc ls (As.reverse ++ rest)) rest ((roQ post) (As).toArray) (fun _ => False) := va_runS ⟨hx, hb, hml, hown, hts⟩ (hM A) (va_cwS n hts hG hw rfl rfl hdsc hR) ⟨roP_blind, fun U hU hW => ⟨rfl, by rw [hU]; exact hPc, hDc, hE.call hS (fun q h => h) hU hW⟩⟩ rfl hn hl.1 rfl (lv_room hcat) hd hroom
  intro T hT X
  obtain ⟨v, st₀, t, T', L, e0, X', hL, e1, e2, ⟨v', hv, hp, hh⟩, stp⟩ := hr T hT X
  cases hv
  obtain ⟨t2, a1, b1⟩ := kk v hp H locs ls hro hP hD hS hl T' (by rw [e1, hh, e0]) (Stand.forget X' (fun q h => (hL q h).elim))
  exact ⟨t2, stp t2 a1, b1⟩
theorem g_callSW (X : GX p l e R s m args below meth c D A nL cc own Ts) {y : MethodName} {wsy wsy' : List Cond} {bytes : ByteArray} {maxL fr lo n index : Nat} {wc : va_W} {As rest : List Value} {ret : Option FieldType} {mc ms : Nat} {post : Option Value → va_W → Prop} (hA : ∀ q, s.heap.size ≤ q → A q) (hro0 : ro = false) (hM : MW l y wsy fr lo mc ms D As wc post) (hG : GoodIn Ts (va_wsS own index y wsy)) (hw : wsy = Cond.code y bytes maxL ret :: wsy') (hdsc : y.cls ≠ "java/lang/invoke/MethodHandle" ∧ y.cls ≠ "java/lang/invoke/VarHandle" ∧ (parseMethodDescriptor y.desc).map (fun d => d.parameters.length) = some n) (hR : fr + 1 ≤ R.frames ∧ 8 + (maxL + 11) + lo ≤ R.locals) (isC : List Nat) (hC : isC.map (fun i => ws[i]?) = wc.map some) (hnd : va_nd isC = true) (hn : As.length = n) (hst : st = As.reverse ++ rest) (hcat : (rest.map fun v => v.category).sum ≤ 8) (hd : decode cc pc = .ok (.invokestatic index, 3)) (hroom : cs + mc ≤ R.cells ∧ sl + ms ≤ R.slots) (hp : pc + 3 = pc') (kk : ∀ (v : Option Value) (w : va_W), post v w → w.map Prod.fst = wc.map Prod.fst ∧ GG p l e R s m args below meth c D A nL ro (cs + mc) (sl + ms) Q (wput ws isC w) pc' lv (v.toList ++ rest)) : GG p l e R s m args below meth c D A nL ro cs sl Q ws pc lv st := by
  subst hp; subst hst
  obtain ⟨hx, hb, hml, hown, hts, hlk, hE⟩ := X
  intro H locs ls hro hP hD hS hl
  have hPc : va_P D.1 vwCl wc H := by
    intro k q hk
    have h3 : (isC.map (fun i => ws[i]?))[k]? = some (some q) := by rw [hC, List.getElem?_map, hk]; rfl
    rw [List.getElem?_map] at h3
    cases hi : isC[k]? with
    | none => rw [hi] at h3; cases h3
    | some i => rw [hi] at h3; exact hP i q (Option.some.inj h3)
  have hDc : va_D (va_A wc H.size) wc := (hD.sub isC hnd hC).self
  have hFc := va_free (wc := wc) hD hS hA isC hC
  have hr : va_Run p l e R s m args below meth c H locs cs sl mc ms (F0 m pc ls (As.reverse ++ rest)) rest ((wrQ D wc H.size post) (As).toArray) (va_A wc H.size) := va_runS ⟨hx, hb, hml, hown, hts⟩ (hM H.size) (va_cwS n hts hG hw rfl rfl hdsc hR) ⟨wrP_blind, fun U hU hW => ⟨rfl, by rw [hU], by rw [hU]; exact hPc, hDc, hE.call hS (fun q h => hFc q h) hU hW⟩⟩ rfl hn hl.1 rfl (lv_room hcat) hd hroom
  intro T hT X
  obtain ⟨v, st₀, t, T', L, e0, X', hL, e1, e2, ⟨⟨v', w, hv, hp, hPw, hDw⟩, hz, hk⟩, stp⟩ := hr T hT X
  cases hv
  rw [e0] at hz hk
  have hS1 : va_S A s.heap t.heap (locs ++ L) := ⟨Nat.le_trans hS.1 hz, fun q h1 h2 => by rw [hk q (Nat.lt_of_lt_of_le h1 hS.1) (fun z => h2 (hFc q z))]; exact hS.2.1 q h1 h2, fun q hq => by
      rcases List.mem_append.mp hq with h | h
      · exact hS.2.2 q h
      · exact hFc _ (hL q h)⟩
  obtain ⟨hw0, kk⟩ := kk v w hp
  obtain ⟨t2, a1, b1⟩ := kk t.heap (locs ++ L) ls (fun h => by cases hro0.symm.trans h) (wput_join hP hD isC hC hw0 hk hPw) (wput_D hC hw0 hD) hS1 hl T' e1 X'
  exact ⟨t2, stp t2 a1, b1⟩
theorem g_callSA (X : GX p l e R s m args below meth c D A nL cc own Ts) {y : MethodName} {wsy wsy' : List Cond} {bytes : ByteArray} {maxL fr lo n index : Nat} {wc : va_W} {As rest : List Value} {ret : Option FieldType} {mc ms : Nat} {post : Option Value → va_W → Prop} (hA : ∀ q, s.heap.size ≤ q → A q) (hro0 : ro = false) (hM : MW l y wsy fr lo mc ms D As wc post) (hG : GoodIn Ts (va_wsS own index y wsy)) (hw : wsy = Cond.code y bytes maxL ret :: wsy') (hdsc : y.cls ≠ "java/lang/invoke/MethodHandle" ∧ y.cls ≠ "java/lang/invoke/VarHandle" ∧ (parseMethodDescriptor y.desc).map (fun d => d.parameters.length) = some n) (hR : fr + 1 ≤ R.frames ∧ 8 + (maxL + 11) + lo ≤ R.locals) (isC : List Nat) (hC : isC.map (fun i => ws[i]?) = wc.map some) (hnd : va_nd isC = true) (hn : As.length = n) (hst : st = As.reverse ++ rest) (hcat : (rest.map fun v => v.category).sum ≤ 8) (hd : decode cc pc = .ok (.invokestatic index, 3)) (hroom : cs + mc ≤ R.cells ∧ sl + ms ≤ R.slots) (hp : pc + 3 = pc') (kk : ∀ (v : Option Value) (w : va_W), post v w → ∃ w1 w2 : va_W, w = w1 ++ w2 ∧ w1.map Prod.fst = wc.map Prod.fst ∧ GG p l e R s m args below meth c D A nL ro (cs + mc) (sl + ms) Q (wput ws isC w1 ++ w2) pc' lv (v.toList ++ rest)) : GG p l e R s m args below meth c D A nL ro cs sl Q ws pc lv st := by
  subst hp; subst hst
  obtain ⟨hx, hb, hml, hown, hts, hlk, hE⟩ := X
  intro H locs ls hro hP hD hS hl
  have hPc : va_P D.1 vwCl wc H := by
    intro k q hk
    have h3 : (isC.map (fun i => ws[i]?))[k]? = some (some q) := by rw [hC, List.getElem?_map, hk]; rfl
    rw [List.getElem?_map] at h3
    cases hi : isC[k]? with
    | none => rw [hi] at h3; cases h3
    | some i => rw [hi] at h3; exact hP i q (Option.some.inj h3)
  have hDc : va_D (va_A wc H.size) wc := (hD.sub isC hnd hC).self
  have hFc := va_free (wc := wc) hD hS hA isC hC
  have hr : va_Run p l e R s m args below meth c H locs cs sl mc ms (F0 m pc ls (As.reverse ++ rest)) rest ((wrQ D wc H.size post) (As).toArray) (va_A wc H.size) := va_runS ⟨hx, hb, hml, hown, hts⟩ (hM H.size) (va_cwS n hts hG hw rfl rfl hdsc hR) ⟨wrP_blind, fun U hU hW => ⟨rfl, by rw [hU], by rw [hU]; exact hPc, hDc, hE.call hS (fun q h => hFc q h) hU hW⟩⟩ rfl hn hl.1 rfl (lv_room hcat) hd hroom
  intro T hT X
  obtain ⟨v, st₀, t, T', L, e0, X', hL, e1, e2, ⟨⟨v', w, hv, hp, hPw, hDw⟩, hz, hk⟩, stp⟩ := hr T hT X
  cases hv
  rw [e0] at hz hk
  have hS1 : va_S A s.heap t.heap (locs ++ L) := ⟨Nat.le_trans hS.1 hz, fun q h1 h2 => by rw [hk q (Nat.lt_of_lt_of_le h1 hS.1) (fun z => h2 (hFc q z))]; exact hS.2.1 q h1 h2, fun q hq => by
      rcases List.mem_append.mp hq with h | h
      · exact hS.2.2 q h
      · exact hFc _ (hL q h)⟩
  obtain ⟨w1, w2, hw12, hw0, kk⟩ := kk v w hp
  subst hw12
  have hP1 : va_P D.1 vwCl w1 t.heap := fun k q h => hPw k q (by rw [List.getElem?_append_left (List.getElem?_eq_some_iff.mp h).1]; exact h)
  have hP2 : va_P D.1 vwCl w2 t.heap := fun k q h => hPw (w1.length + k) q (by rw [List.getElem?_append_right (by omega)]; simpa using h)
  have hD2 : va_D (va_A wc H.size) w2 := ⟨fun i j x y hi hj hxy => by
    have := hDw.1 (w1.length + i) (w1.length + j) x y (by rw [List.getElem?_append_right (by omega)]; simpa using hi) (by rw [List.getElem?_append_right (by omega)]; simpa using hj) hxy
    omega, fun k q h => hDw.2 (w1.length + k) q (by rw [List.getElem?_append_right (by omega)]; simpa using h)⟩
  have hDp := wput_D hC hw0 hD
  have hap : ∀ (i j : Nat) (x y : Nat × va_E), (wput ws isC w1)[i]? = some x → w2[j]? = some y → x.1 ≠ y.1 := by
    intro i j x y hi hj hxy
    have hj' : (w1 ++ w2)[w1.length + j]? = some y := by rw [List.getElem?_append_right (by omega)]; simpa using hj
    obtain ⟨ex, hex⟩ := (wput_old (A := A) hC hw0).2 i x hi
    rcases hDw.2 _ y hj' with ⟨k, e5, h5⟩ | h5
    · -- y's address is an old one of wc: then it is in w1
      have h6 : (w1.map Prod.fst)[k]? = some y.1 := by rw [hw0, List.getElem?_map, h5]; rfl
      rw [List.getElem?_map] at h6
      cases h7 : w1[k]? with
      | none => rw [h7] at h6; cases h6
      | some z =>
        rw [h7] at h6
        have h8 : (w1 ++ w2)[k]? = some z := by rw [List.getElem?_append_left (List.getElem?_eq_some_iff.mp h7).1]; exact h7
        have h9 := hDw.1 k (w1.length + j) z y h8 hj' (Option.some.inj h6)
        have h10 := (List.getElem?_eq_some_iff.mp h7).1
        omega
    · have h6 := (hP i _ hex).lt
      simp only [hxy] at h6
      omega
  obtain ⟨t2, a1, b1⟩ := kk t.heap (locs ++ L) ls (fun h => by cases hro0.symm.trans h) (va_P.app (wput_join hP hD isC hC hw0 hk hP1) hP2) (va_D.app hDp (hD2.weaken (fun k q _ h => hFc q.1 h)) hap) hS1 hl T' e1 X'
  exact ⟨t2, stp t2 a1, b1⟩
theorem g_callSNR (X : GX p l e R s m args below meth c D A nL cc own Ts) {y : MethodName} {wsy wsy' : List Cond} {bytes : ByteArray} {maxL fr lo n index : Nat} {wc : va_W} {As rest : List Value} {ret : Option FieldType} {post : Option Value → Prop} (hM : MR l y wsy fr lo D As wc post) (hG : GoodIn Ts wsy) (hini : Cond.initialized y.cls ∈ Ts) (hnest : Cond.methodLinkNest own index y "VisaPages" ∈ nwL) (hstt : Cond.static y ∈ Ts) (hw : wsy = Cond.code y bytes maxL ret :: wsy') (hdsc : y.cls ≠ "java/lang/invoke/MethodHandle" ∧ y.cls ≠ "java/lang/invoke/VarHandle" ∧ (parseMethodDescriptor y.desc).map (fun d => d.parameters.length) = some n) (hR : fr + 1 ≤ R.frames ∧ 8 + (maxL + 11) + lo ≤ R.locals) (isC : List Nat) (hC : isC.map (fun i => ws[i]?) = wc.map some) (hnd : va_nd isC = true) (hn : As.length = n) (hst : st = As.reverse ++ rest) (hcat : (rest.map fun v => v.category).sum ≤ 8) (hd : decode cc pc = .ok (.invokestatic index, 3)) (hroom : cs ≤ R.cells ∧ sl ≤ R.slots) (hp : pc + 3 = pc') (kk : ∀ v : Option Value, post v → GG p l e R s m args below meth c D A nL ro cs sl Q ws pc' lv (v.toList ++ rest)) : GG p l e R s m args below meth c D A nL ro cs sl Q ws pc lv st := by
  subst hp; subst hst
  obtain ⟨hx, hb, hml, hown, hts, hlk, hE⟩ := X
  intro H locs ls hro hP hD hS hl
  have hPc : va_P D.1 vwCl wc H := by
    intro k q hk
    have h3 : (isC.map (fun i => ws[i]?))[k]? = some (some q) := by rw [hC, List.getElem?_map, hk]; rfl
    rw [List.getElem?_map] at h3
    cases hi : isC[k]? with
    | none => rw [hi] at h3; cases h3
    | some i => rw [hi] at h3; exact hP i q (Option.some.inj h3)
  have hDc : va_D A wc := hD.sub isC hnd hC
  have hr : va_Run p l e R s m args below meth c H locs cs sl 0 0 (F0 m pc ls (As.reverse ++ rest)) rest ((roQ post) (As).toArray) (fun _ => False) := va_runSN ⟨hx, hb, hml, hown, hts⟩ (hM A) ⟨va_cnB n hts hG hw rfl rfl (hE.2.1 _ hnest) (hts _ hini) hdsc hR, hts _ hstt, trivial⟩ ⟨roP_blind, fun U hU hW => ⟨rfl, by rw [hU]; exact hPc, hDc, hE.call hS (fun q h => h) hU hW⟩⟩ rfl hn hl.1 rfl (lv_room hcat) hd hroom
  intro T hT X
  obtain ⟨v, st₀, t, T', L, e0, X', hL, e1, e2, ⟨v', hv, hp, hh⟩, stp⟩ := hr T hT X
  cases hv
  obtain ⟨t2, a1, b1⟩ := kk v hp H locs ls hro hP hD hS hl T' (by rw [e1, hh, e0]) (Stand.forget X' (fun q h => (hL q h).elim))
  exact ⟨t2, stp t2 a1, b1⟩
theorem g_callSNW (X : GX p l e R s m args below meth c D A nL cc own Ts) {y : MethodName} {wsy wsy' : List Cond} {bytes : ByteArray} {maxL fr lo n index : Nat} {wc : va_W} {As rest : List Value} {ret : Option FieldType} {mc ms : Nat} {post : Option Value → va_W → Prop} (hA : ∀ q, s.heap.size ≤ q → A q) (hro0 : ro = false) (hM : MW l y wsy fr lo mc ms D As wc post) (hG : GoodIn Ts wsy) (hini : Cond.initialized y.cls ∈ Ts) (hnest : Cond.methodLinkNest own index y "VisaPages" ∈ nwL) (hstt : Cond.static y ∈ Ts) (hw : wsy = Cond.code y bytes maxL ret :: wsy') (hdsc : y.cls ≠ "java/lang/invoke/MethodHandle" ∧ y.cls ≠ "java/lang/invoke/VarHandle" ∧ (parseMethodDescriptor y.desc).map (fun d => d.parameters.length) = some n) (hR : fr + 1 ≤ R.frames ∧ 8 + (maxL + 11) + lo ≤ R.locals) (isC : List Nat) (hC : isC.map (fun i => ws[i]?) = wc.map some) (hnd : va_nd isC = true) (hn : As.length = n) (hst : st = As.reverse ++ rest) (hcat : (rest.map fun v => v.category).sum ≤ 8) (hd : decode cc pc = .ok (.invokestatic index, 3)) (hroom : cs + mc ≤ R.cells ∧ sl + ms ≤ R.slots) (hp : pc + 3 = pc') (kk : ∀ (v : Option Value) (w : va_W), post v w → w.map Prod.fst = wc.map Prod.fst ∧ GG p l e R s m args below meth c D A nL ro (cs + mc) (sl + ms) Q (wput ws isC w) pc' lv (v.toList ++ rest)) : GG p l e R s m args below meth c D A nL ro cs sl Q ws pc lv st := by
  subst hp; subst hst
  obtain ⟨hx, hb, hml, hown, hts, hlk, hE⟩ := X
  intro H locs ls hro hP hD hS hl
  have hPc : va_P D.1 vwCl wc H := by
    intro k q hk
    have h3 : (isC.map (fun i => ws[i]?))[k]? = some (some q) := by rw [hC, List.getElem?_map, hk]; rfl
    rw [List.getElem?_map] at h3
    cases hi : isC[k]? with
    | none => rw [hi] at h3; cases h3
    | some i => rw [hi] at h3; exact hP i q (Option.some.inj h3)
  have hDc : va_D (va_A wc H.size) wc := (hD.sub isC hnd hC).self
  have hFc := va_free (wc := wc) hD hS hA isC hC
  have hr : va_Run p l e R s m args below meth c H locs cs sl mc ms (F0 m pc ls (As.reverse ++ rest)) rest ((wrQ D wc H.size post) (As).toArray) (va_A wc H.size) := va_runSN ⟨hx, hb, hml, hown, hts⟩ (hM H.size) ⟨va_cnB n hts hG hw rfl rfl (hE.2.1 _ hnest) (hts _ hini) hdsc hR, hts _ hstt, trivial⟩ ⟨wrP_blind, fun U hU hW => ⟨rfl, by rw [hU], by rw [hU]; exact hPc, hDc, hE.call hS (fun q h => hFc q h) hU hW⟩⟩ rfl hn hl.1 rfl (lv_room hcat) hd hroom
  intro T hT X
  obtain ⟨v, st₀, t, T', L, e0, X', hL, e1, e2, ⟨⟨v', w, hv, hp, hPw, hDw⟩, hz, hk⟩, stp⟩ := hr T hT X
  cases hv
  rw [e0] at hz hk
  have hS1 : va_S A s.heap t.heap (locs ++ L) := ⟨Nat.le_trans hS.1 hz, fun q h1 h2 => by rw [hk q (Nat.lt_of_lt_of_le h1 hS.1) (fun z => h2 (hFc q z))]; exact hS.2.1 q h1 h2, fun q hq => by
      rcases List.mem_append.mp hq with h | h
      · exact hS.2.2 q h
      · exact hFc _ (hL q h)⟩
  obtain ⟨hw0, kk⟩ := kk v w hp
  obtain ⟨t2, a1, b1⟩ := kk t.heap (locs ++ L) ls (fun h => by cases hro0.symm.trans h) (wput_join hP hD isC hC hw0 hk hPw) (wput_D hC hw0 hD) hS1 hl T' e1 X'
  exact ⟨t2, stp t2 a1, b1⟩
theorem g_callSNA (X : GX p l e R s m args below meth c D A nL cc own Ts) {y : MethodName} {wsy wsy' : List Cond} {bytes : ByteArray} {maxL fr lo n index : Nat} {wc : va_W} {As rest : List Value} {ret : Option FieldType} {mc ms : Nat} {post : Option Value → va_W → Prop} (hA : ∀ q, s.heap.size ≤ q → A q) (hro0 : ro = false) (hM : MW l y wsy fr lo mc ms D As wc post) (hG : GoodIn Ts wsy) (hini : Cond.initialized y.cls ∈ Ts) (hnest : Cond.methodLinkNest own index y "VisaPages" ∈ nwL) (hstt : Cond.static y ∈ Ts) (hw : wsy = Cond.code y bytes maxL ret :: wsy') (hdsc : y.cls ≠ "java/lang/invoke/MethodHandle" ∧ y.cls ≠ "java/lang/invoke/VarHandle" ∧ (parseMethodDescriptor y.desc).map (fun d => d.parameters.length) = some n) (hR : fr + 1 ≤ R.frames ∧ 8 + (maxL + 11) + lo ≤ R.locals) (isC : List Nat) (hC : isC.map (fun i => ws[i]?) = wc.map some) (hnd : va_nd isC = true) (hn : As.length = n) (hst : st = As.reverse ++ rest) (hcat : (rest.map fun v => v.category).sum ≤ 8) (hd : decode cc pc = .ok (.invokestatic index, 3)) (hroom : cs + mc ≤ R.cells ∧ sl + ms ≤ R.slots) (hp : pc + 3 = pc') (kk : ∀ (v : Option Value) (w : va_W), post v w → ∃ w1 w2 : va_W, w = w1 ++ w2 ∧ w1.map Prod.fst = wc.map Prod.fst ∧ GG p l e R s m args below meth c D A nL ro (cs + mc) (sl + ms) Q (wput ws isC w1 ++ w2) pc' lv (v.toList ++ rest)) : GG p l e R s m args below meth c D A nL ro cs sl Q ws pc lv st := by
  subst hp; subst hst
  obtain ⟨hx, hb, hml, hown, hts, hlk, hE⟩ := X
  intro H locs ls hro hP hD hS hl
  have hPc : va_P D.1 vwCl wc H := by
    intro k q hk
    have h3 : (isC.map (fun i => ws[i]?))[k]? = some (some q) := by rw [hC, List.getElem?_map, hk]; rfl
    rw [List.getElem?_map] at h3
    cases hi : isC[k]? with
    | none => rw [hi] at h3; cases h3
    | some i => rw [hi] at h3; exact hP i q (Option.some.inj h3)
  have hDc : va_D (va_A wc H.size) wc := (hD.sub isC hnd hC).self
  have hFc := va_free (wc := wc) hD hS hA isC hC
  have hr : va_Run p l e R s m args below meth c H locs cs sl mc ms (F0 m pc ls (As.reverse ++ rest)) rest ((wrQ D wc H.size post) (As).toArray) (va_A wc H.size) := va_runSN ⟨hx, hb, hml, hown, hts⟩ (hM H.size) ⟨va_cnB n hts hG hw rfl rfl (hE.2.1 _ hnest) (hts _ hini) hdsc hR, hts _ hstt, trivial⟩ ⟨wrP_blind, fun U hU hW => ⟨rfl, by rw [hU], by rw [hU]; exact hPc, hDc, hE.call hS (fun q h => hFc q h) hU hW⟩⟩ rfl hn hl.1 rfl (lv_room hcat) hd hroom
  intro T hT X
  obtain ⟨v, st₀, t, T', L, e0, X', hL, e1, e2, ⟨⟨v', w, hv, hp, hPw, hDw⟩, hz, hk⟩, stp⟩ := hr T hT X
  cases hv
  rw [e0] at hz hk
  have hS1 : va_S A s.heap t.heap (locs ++ L) := ⟨Nat.le_trans hS.1 hz, fun q h1 h2 => by rw [hk q (Nat.lt_of_lt_of_le h1 hS.1) (fun z => h2 (hFc q z))]; exact hS.2.1 q h1 h2, fun q hq => by
      rcases List.mem_append.mp hq with h | h
      · exact hS.2.2 q h
      · exact hFc _ (hL q h)⟩
  obtain ⟨w1, w2, hw12, hw0, kk⟩ := kk v w hp
  subst hw12
  have hP1 : va_P D.1 vwCl w1 t.heap := fun k q h => hPw k q (by rw [List.getElem?_append_left (List.getElem?_eq_some_iff.mp h).1]; exact h)
  have hP2 : va_P D.1 vwCl w2 t.heap := fun k q h => hPw (w1.length + k) q (by rw [List.getElem?_append_right (by omega)]; simpa using h)
  have hD2 : va_D (va_A wc H.size) w2 := ⟨fun i j x y hi hj hxy => by
    have := hDw.1 (w1.length + i) (w1.length + j) x y (by rw [List.getElem?_append_right (by omega)]; simpa using hi) (by rw [List.getElem?_append_right (by omega)]; simpa using hj) hxy
    omega, fun k q h => hDw.2 (w1.length + k) q (by rw [List.getElem?_append_right (by omega)]; simpa using h)⟩
  have hDp := wput_D hC hw0 hD
  have hap : ∀ (i j : Nat) (x y : Nat × va_E), (wput ws isC w1)[i]? = some x → w2[j]? = some y → x.1 ≠ y.1 := by
    intro i j x y hi hj hxy
    have hj' : (w1 ++ w2)[w1.length + j]? = some y := by rw [List.getElem?_append_right (by omega)]; simpa using hj
    obtain ⟨ex, hex⟩ := (wput_old (A := A) hC hw0).2 i x hi
    rcases hDw.2 _ y hj' with ⟨k, e5, h5⟩ | h5
    · -- y's address is an old one of wc: then it is in w1
      have h6 : (w1.map Prod.fst)[k]? = some y.1 := by rw [hw0, List.getElem?_map, h5]; rfl
      rw [List.getElem?_map] at h6
      cases h7 : w1[k]? with
      | none => rw [h7] at h6; cases h6
      | some z =>
        rw [h7] at h6
        have h8 : (w1 ++ w2)[k]? = some z := by rw [List.getElem?_append_left (List.getElem?_eq_some_iff.mp h7).1]; exact h7
        have h9 := hDw.1 k (w1.length + j) z y h8 hj' (Option.some.inj h6)
        have h10 := (List.getElem?_eq_some_iff.mp h7).1
        omega
    · have h6 := (hP i _ hex).lt
      simp only [hxy] at h6
      omega
  obtain ⟨t2, a1, b1⟩ := kk t.heap (locs ++ L) ls (fun h => by cases hro0.symm.trans h) (va_P.app (wput_join hP hD isC hC hw0 hk hP1) hP2) (va_D.app hDp (hD2.weaken (fun k q _ h => hFc q.1 h)) hap) hS1 hl T' e1 X'
  exact ⟨t2, stp t2 a1, b1⟩
end GROWS
section GSTART
theorem MR.of {l : Launch} {y : MethodName} {wsy wsy' : List Cond} {fr lo : Nat} {D : DT} {av : List Value} {wc : va_W} {post : Option Value → Prop} {cc : ByteArray} {maxL : Nat} {ret : Option FieldType} {lv : List (Nat × Value)} (hy : plainName y.cls = true) (hw : wsy = Cond.code y cc maxL ret :: wsy') (hav : (lg_sl av).length ≤ maxL) (hlv : lv_args 0 av = lv)
    (body : ∀ (p : Program) (e : Env) (s : State) (m : MethodId) (below : List Frame) (meth : Method) (c : Code) (A : Nat → Prop), GX p l e (wRoom fr lo 0 0) s m av.toArray below meth c D A maxL cc y.cls wsy → meth.sig.returnType = ret → meth.name = y.name →
      GG p l e (wRoom fr lo 0 0) s m av.toArray below meth c D A maxL true 0 0 (MQ below (roQ post) av.toArray s 0 0 (fun _ => False)) wc 0 lv []) : MR l y wsy fr lo D av wc post := by
  intro A
  refine Met.ofW (cc := cc) (maxL := maxL) (ret := ret) hy hw ?_
  intro p e s m args below meth c s₁ B hml hv
  obtain ⟨rfl, hP, hD, hE⟩ := hv
  have hl := lv_entry av (n := maxL) hav
  rw [lg_entry_eq]
  rw [hlv] at hl
  exact body p e s m below meth c A ⟨B.exec, B.bytes, hml, findClass_of_methodNamed B.named, atoms_spec (ws := wsy) B.pre, B.notSynchronized, hE⟩ B.returns (name_of_methodNamed B.named B.method).1 s.heap [] _ (fun _ => ⟨rfl, rfl⟩) hP hD va_S.rf hl
theorem MW.of {l : Launch} {y : MethodName} {wsy wsy' : List Cond} {fr lo mc ms : Nat} {D : DT} {av : List Value} {wc : va_W} {post : Option Value → va_W → Prop} {cc : ByteArray} {maxL : Nat} {ret : Option FieldType} {lv : List (Nat × Value)} (hy : plainName y.cls = true) (hw : wsy = Cond.code y cc maxL ret :: wsy') (hav : (lg_sl av).length ≤ maxL) (hlv : lv_args 0 av = lv)
    (body : ∀ (p : Program) (e : Env) (s : State) (m : MethodId) (below : List Frame) (meth : Method) (c : Code) (A : Nat → Prop), A = va_A wc s.heap.size → (∀ q, s.heap.size ≤ q → A q) → GX p l e (wRoom fr lo mc ms) s m av.toArray below meth c D A maxL cc y.cls wsy → meth.sig.returnType = ret → meth.name = y.name →
      GG p l e (wRoom fr lo mc ms) s m av.toArray below meth c D A maxL false 0 0 (MQ below (wrQ D wc s.heap.size post) av.toArray s mc ms (va_A wc s.heap.size)) wc 0 lv []) : MW l y wsy fr lo mc ms D av wc post := by
  intro sz
  refine Met.ofW (cc := cc) (maxL := maxL) (ret := ret) hy hw ?_
  intro p e s m args below meth c s₁ B hml hv
  obtain ⟨rfl, hsz, hP, hD, hE⟩ := hv
  subst hsz
  have hl := lv_entry av (n := maxL) hav
  rw [lg_entry_eq]
  rw [hlv] at hl
  exact body p e s m below meth c _ rfl (fun q h => Or.inr h) ⟨B.exec, B.bytes, hml, findClass_of_methodNamed B.named, atoms_spec (ws := wsy) B.pre, B.notSynchronized, hE⟩ B.returns (name_of_methodNamed B.named B.method).1 s.heap [] _ (fun h => by cases h) hP hD va_S.rf hl
end GSTART
