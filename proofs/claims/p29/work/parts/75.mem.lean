section GMEM
variable {p : Program} {l : Launch} {e : Env} {R : Room} {s : State} {m : MethodId} {args : Array Value} {below : List Frame} {meth : Method} {c : Code} {D : DT} {A : Nat → Prop} {nL : Nat} {ro : Bool} {cs sl : Nat} {Q : State → Prop} {cc : ByteArray} {own : String} {Ts : List Cond} {ws : va_W} {lv : List (Nat × Value)} {st : List Value} {pc pc' : Nat}
theorem g_objInit (X : GX p l e R s m args below meth c D A nL cc own Ts) {index a : Nat} (hd : decode cc pc = .ok (.invokespecial index, 3)) (hlink : Cond.methodLink own index objectInit ∈ Ts) (hinst : Cond.instanceMethod objectInit ∈ Ts) (hcode : Cond.code objectInit ⟨#[0xb1]⟩ 1 none ∈ Ts) (hR : 1 ≤ R.frames ∧ 30 ≤ R.locals) (hcat : (st.map fun v => v.category).sum ≤ 8) (hp : pc + 3 = pc') (kk : GG p l e R s m args below meth c D A nL ro cs sl Q ws pc' lv st) : GG p l e R s m args below meth c D A nL ro cs sl Q ws pc lv (.ref a :: st) := by
  subst hp
  obtain ⟨hx, hb, hml, hown, hts, hlk, hE⟩ := X
  intro H locs ls hro hP hD hS hl
  exact W.objInit hx hb hown (hts _ hlink) (hts _ hinst) (hts _ hcode) rfl (by rw [hml]; exact hl.1) rfl hd hR.1 (by show 2 * 0 + (st.map fun v => v.category).sum + 12 ≤ _; omega) (kk H locs ls hro hP hD hS hl)
theorem g_new (X : GX p l e R s m args below meth c D A nL cc own Ts) {C : String} {T : u_T} {N ci index : Nat} (ty0 : Nat → FieldType) {fs : List Value} (hA : ∀ q, s.heap.size ≤ q → A q) (hro0 : ro = false) (hd : decode cc pc = .ok (.new index, 3)) (hin : ∀ w ∈ u_ws C T N, w ∈ Ts) (hty : ∀ k, k < N → parseFieldDescriptor (T k).2.2.1 = some (ty0 k)) (hcl : Cond.classLink own index C ∈ Ts) (hinst : Cond.instantiable C N ∈ Ts) (hini : Cond.initialized C ∈ Ts) (hc : vwCl[ci]? = some (C, T, N)) (hfs : ∀ j, j < N → defaultValue (ty0 j) = vp_V fs j) (hroom : cs + 1 ≤ R.cells ∧ sl + N ≤ R.slots) (hp : pc + 3 = pc') (kk : ∀ q : Nat, GG p l e R s m args below meth c D A nL ro (cs + 1) (sl + N) Q (ws ++ [(q, .inr (ci, fs))]) pc' lv (.ref q :: st)) : GG p l e R s m args below meth c D A nL ro cs sl Q ws pc lv st := by
  subst hp
  obtain ⟨hx, hb, hml, hown, hts, hlk, hE⟩ := X
  intro H locs ls hro hP hD hS hl
  exact va_new hx hb hts hin ty0 hty hown (hts _ hcl) (hts _ hinst) (hts _ hini) hE.1 hP hD hS hA hc hfs hroom.1 hroom.2 hd (fun q H1 hP1 hD1 hS1 => kk q H1 locs ls (fun h => by cases hro0.symm.trans h) hP1 hD1 hS1 hl)
theorem g_newa_int (X : GX p l e R s m args below meth c D A nL cc own Ts) {n : Int32} {N : Nat} (hA : ∀ q, s.heap.size ≤ q → A q) (hro0 : ro = false) (hd : decode cc pc = .ok (.newarray .int, 2)) (harr : Cond.arrayClass .int ∈ Ts) (hn : n = nI N) (hN : N < 5000) (hroom : cs + 1 ≤ R.cells ∧ sl + N ≤ R.slots) (hp : pc + 2 = pc') (kk : ∀ q : Nat, GG p l e R s m args below meth c D A nL ro (cs + 1) (sl + N) Q (ws ++ [(q, .inl (D.2.1, N, .inl (fun _ => 0)))]) pc' lv (.ref q :: st)) : GG p l e R s m args below meth c D A nL ro cs sl Q ws pc lv (.int n :: st) := by
  subst hp
  obtain ⟨hx, hb, hml, hown, hts, hlk, hE⟩ := X
  intro H locs ls hro hP hD hS hl
  subst hn
  refine va_newa (atype := .int) (ty := .int) (N' := N) (a0 := (N, .inl (fun _ => 0))) hx hb (hts _ harr) rfl hE.1 hP hD hS hA (fun cA => rfl) (nIm (by omega)) (nI_clamp (by omega)) (by show N * _ ≤ _; exact Nat.le_trans (Nat.mul_le_mul_right _ (show N ≤ 5000 by omega)) (Nat.le_of_ble_eq_true rfl)) hroom.1 hroom.2 hd (fun q cA H1 hK1 hP1 hD1 hS1 => ?_)
  have h1 := va_nm_int (hK1.2 4 (cA, .int) rfl).2
  have h2 := va_nm_int (hE.1.2 0 (D.2.1, .int) rfl).2
  have e : cA = D.2.1 := Option.some.inj (h1.symm.trans h2)
  subst e
  exact kk q H1 locs ls (fun h => by cases hro0.symm.trans h) hP1 hD1 hS1 hl
theorem g_newa_char (X : GX p l e R s m args below meth c D A nL cc own Ts) {n : Int32} {N : Nat} (hA : ∀ q, s.heap.size ≤ q → A q) (hro0 : ro = false) (hd : decode cc pc = .ok (.newarray .char, 2)) (harr : Cond.arrayClass .char ∈ Ts) (hn : n = nI N) (hN : N < 5000) (hroom : cs + 1 ≤ R.cells ∧ sl + N ≤ R.slots) (hp : pc + 2 = pc') (kk : ∀ q : Nat, GG p l e R s m args below meth c D A nL ro (cs + 1) (sl + N) Q (ws ++ [(q, .inl (D.2.2.2.1, N, .inl (fun _ => 0)))]) pc' lv (.ref q :: st)) : GG p l e R s m args below meth c D A nL ro cs sl Q ws pc lv (.int n :: st) := by
  subst hp
  obtain ⟨hx, hb, hml, hown, hts, hlk, hE⟩ := X
  intro H locs ls hro hP hD hS hl
  subst hn
  refine va_newa (atype := .char) (ty := .char) (N' := N) (a0 := (N, .inl (fun _ => 0))) hx hb (hts _ harr) rfl hE.1 hP hD hS hA (fun cA => rfl) (nIm (by omega)) (nI_clamp (by omega)) (by show N * _ ≤ _; exact Nat.le_trans (Nat.mul_le_mul_right _ (show N ≤ 5000 by omega)) (Nat.le_of_ble_eq_true rfl)) hroom.1 hroom.2 hd (fun q cA H1 hK1 hP1 hD1 hS1 => ?_)
  have h1 := va_nm_char (hK1.2 4 (cA, .char) rfl).2
  have h2 := va_nm_char (hE.1.2 2 (D.2.2.2.1, .char) rfl).2
  have e : cA = D.2.2.2.1 := Option.some.inj (h1.symm.trans h2)
  subst e
  exact kk q H1 locs ls (fun h => by cases hro0.symm.trans h) hP1 hD1 hS1 hl
theorem g_newq (X : GX p l e R s m args below meth c D A nL cc own Ts) {n : Int32} {N index : Nat} (hA : ∀ q, s.heap.size ≤ q → A q) (hro0 : ro = false) (hd : decode cc pc = .ok (.anewarray index, 3)) (hcl : Cond.classLink own index RX2 ∈ Ts) (hn : n = nI N) (hN : N < 5000) (hroom : cs + 1 ≤ R.cells ∧ sl + N ≤ R.slots) (hp : pc + 3 = pc') (kk : ∀ q : Nat, GG p l e R s m args below meth c D A nL ro (cs + 1) (sl + N) Q (ws ++ [(q, .inl (D.2.2.2.2.1, N, .inr (.inr (.inr (.inr (fun _ => none))))))]) pc' lv (.ref q :: st)) : GG p l e R s m args below meth c D A nL ro cs sl Q ws pc lv (.int n :: st) := by
  subst hp
  obtain ⟨hx, hb, hml, hown, hts, hlk, hE⟩ := X
  intro H locs ls hro hP hD hS hl
  subst hn
  refine va_newq (N' := N) hx hb hown (hts _ hcl) hE.2.2.1.2 hE.1 hP hD hS hA (nIm (by omega)) (nI_clamp (by omega)) (by omega) hroom.1 hroom.2 hd (fun q cA H1 hK1 hP1 hD1 hS1 => ?_)
  obtain ⟨_, _, _, _, _, h1⟩ := (hK1.2 4 (cA, .object RX2) rfl).2
  obtain ⟨_, _, _, _, _, h2⟩ := (hE.1.2 3 (D.2.2.2.2.1, .object RX2) rfl).2
  have e : cA = D.2.2.2.2.1 := Option.some.inj (h1.symm.trans h2)
  subst e
  exact kk q H1 locs ls (fun h => by cases hro0.symm.trans h) hP1 hD1 hS1 hl
theorem g_castI (X : GX p l e R s m args below meth c D A nL cc own Ts) {index a : Nat} {x : vp_A} (hd : decode cc pc = .ok (.checkcast index, 3)) (hcl : Cond.classLink own index "[I" ∈ Ts) (q0 : Nat) (ha : ws[q0]? = some (a, .inl (D.2.1, x))) (hp : pc + 3 = pc') (kk : GG p l e R s m args below meth c D A nL ro cs sl Q ws pc' lv (.ref a :: st)) : GG p l e R s m args below meth c D A nL ro cs sl Q ws pc lv (.ref a :: st) := by
  subst hp
  obtain ⟨hx, hb, hml, hown, hts, hlk, hE⟩ := X
  intro H locs ls hro hP hD hS hl
  exact va_castA hx hb hown (hts _ hcl) hP q0 ha (va_nm_int (hE.1.2 0 (D.2.1, .int) rfl).2) hd (kk H locs ls hro hP hD hS hl)
theorem g_copyi (X : GX p l e R s m args below meth c D A nL cc own Ts) {index a0 a1 N : Nat} {n : Int32} {f g : Nat → Int32} (ws' : va_W) (hro0 : ro = false) (hd : decode cc pc = .ok (.invokestatic index, 3)) (hlink : Cond.methodLink own index arraycopyName ∈ Ts) (hnat : Cond.native arraycopyName ∈ Ts) (hstat : Cond.static arraycopyName ∈ Ts) (hini : Cond.initialized "java/lang/System" ∈ Ts) (q0 q1 : Nat) (ha0 : ws[q0]? = some (a0, .inl (D.2.1, N, .inl f))) (ha1 : ws[q1]? = some (a1, .inl (D.2.1, N, .inl g))) (hn : n = nI N) (hN : N < 5000) (hR : 1 ≤ R.frames ∧ 30 ≤ R.locals) (hcat : (st.map fun v => v.category).sum ≤ 8) (hws : ws.set q1 (a1, .inl (D.2.1, N, .inl (va_cpy f g 0 0 N))) = ws') (hp : pc + 3 = pc') (kk : GG p l e R s m args below meth c D A nL ro cs sl Q ws' pc' lv st) : GG p l e R s m args below meth c D A nL ro cs sl Q ws pc lv (.int n :: .int 0 :: .ref a1 :: .int 0 :: .ref a0 :: st) := by
  subst hp
  obtain ⟨hx, hb, hml, hown, hts, hlk, hE⟩ := X
  intro H locs ls hro hP hD hS hl
  subst hn
  have z0 : (0 : Int32).toNatClampNeg = 0 := rfl
  have zn : (nI N).toNatClampNeg = N := nI_clamp (by omega)
  refine va_copyi (ty := .int) hx hb (by rw [hml]; exact hl.1.symm) hown (hts _ hlink) (hts _ hnat) (hts _ hstat) (hts _ hini) hE.1 hP hD hS q0 q1 0 0 ha0 ha1 rfl rfl rfl (by decide) (by decide) (nIm (by omega)) (by rw [z0, zn]; omega) (by rw [z0, zn]; omega) (fun i _ => rfl) hR.1 (by show (st.map fun v => v.category).sum + 18 ≤ _; omega) hd (fun H1 locs1 hP1 hD1 hS1 => ?_)
  rw [z0, zn] at hP1 hD1
  exact kk H1 locs1 ls (fun h => by cases hro0.symm.trans h) (hws ▸ hP1) (hws ▸ hD1) hS1 hl
theorem g_aload_nN (X : GX p l e R s m args below meth c D A nL cc own Ts) {k : Fin 4} {i : Nat} (hd : decode cc pc = .ok (.aload_n k, 1)) (hi : (k : Nat) = i) (q : Nat) (hk : lv[q]? = some (i, .null)) (hp : pc + 1 = pc') (kk : GG p l e R s m args below meth c D A nL ro cs sl Q ws pc' lv (.null :: st)) : GG p l e R s m args below meth c D A nL ro cs sl Q ws pc lv st := by
  subst hp
  obtain ⟨hx, hb, hml, hown, hts, hlk, hE⟩ := X
  intro H locs ls hro hP hD hS hl
  exact lv_aload_nN hx hb hd hi (lv_at hl q hk) (kk H locs ls hro hP hD hS hl)
theorem g_astore_nN (X : GX p l e R s m args below meth c D A nL cc own Ts) {k : Fin 4} {i : Nat} (lv' : List (Nat × Value)) (hd : decode cc pc = .ok (.astore_n k, 1)) (hi : (k : Nat) = i) (hn : i < nL) (hlv : (i, Value.null) :: lv.filter (fun q => !(q.1 == i) && !(q.1 + 1 == i && q.2.category == 2)) = lv') (hp : pc + 1 = pc') (kk : GG p l e R s m args below meth c D A nL ro cs sl Q ws pc' lv' st) : GG p l e R s m args below meth c D A nL ro cs sl Q ws pc lv (.null :: st) := by
  subst hp
  obtain ⟨hx, hb, hml, hown, hts, hlk, hE⟩ := X
  intro H locs ls hro hP hD hS hl
  exact lv_astore_nN hx hb hd hi hl hn hlv (fun ls hl => kk H locs ls hro hP hD hS hl)
theorem g_cloneF (X : GX p l e R s m args below meth c D A nL cc own Ts) {index t : Nat} (hA : ∀ q, s.heap.size ≤ q → A q) (hro0 : ro = false) (hd : decode cc pc = .ok (.invokevirtual index, 3)) (hlink : Cond.methodLink own index ⟨"[I", "clone", "()Ljava/lang/Object;"⟩ ∈ Ts) (hsame : Cond.sameMethod "[I" "java/lang/Object" "clone" "()Ljava/lang/Object;" ∈ Ts) (hnat : Cond.native ⟨"java/lang/Object", "clone", "()Ljava/lang/Object;"⟩ ∈ Ts) (hinst : Cond.instanceMethod ⟨"java/lang/Object", "clone", "()Ljava/lang/Object;"⟩ ∈ Ts) (hsel : Cond.selects "[I" ⟨"[I", "clone", "()Ljava/lang/Object;"⟩ ⟨"java/lang/Object", "clone", "()Ljava/lang/Object;"⟩ ∈ Ts)
    (hT : va_T .int t 4 (fun j => .int (fsFirst j)) A s s.heap) (hX : exS D t s.heap) (hR : 1 ≤ R.frames ∧ 30 ≤ R.locals) (hcat : (st.map fun v => v.category).sum ≤ 8) (hroom : cs + 1 ≤ R.cells ∧ sl + 4 ≤ R.slots) (hp : pc + 3 = pc') (kk : ∀ q : Nat, GG p l e R s m args below meth c D A nL ro (cs + 1) (sl + 4) Q (ws ++ [(q, .inl (D.2.1, 4, .inl fsFirst))]) pc' lv (.ref q :: st)) : GG p l e R s m args below meth c D A nL ro cs sl Q ws pc lv (.ref t :: st) := by
  subst hp
  obtain ⟨hx, hb, hml, hown, hts, hlk, hE⟩ := X
  intro H locs ls hro hP hD hS hl
  obtain ⟨cell, h1, h2, h3⟩ := hX
  obtain ⟨cell', g1, g2, g3, g4, g5, g6, g7⟩ := hT
  cases h1.symm.trans g1
  obtain ⟨c0, t0', f1, f2, f3⟩ := Cond.castable_spec (va_Nw.use (A := args) rfl hE.2.2.1.1)
  have hnm : s.vm.findClass "[I" = some cell.cls := by rw [h2]; exact va_nm_int (hE.1.2 0 (D.2.1, .int) rfl).2
  cases hnm.symm.trans f1
  have hHt : H[t]? = some cell := by rw [hS.2.1 t (Array.getElem?_eq_some_iff.mp h1).1 g7]; exact h1
  have hcellE : ({ cls := cell.cls, slots := cell.slots } : Cell) = vp_cell D.2.1 (4, .inl fsFirst) := by
    have e : cell.slots = (arrV D.2.1 4 (fun j => .int (fsFirst j))).slots := by
      apply Array.ext_getElem?
      intro i
      by_cases hi : i < 4
      · rw [g6 i hi, arrV_read _ _ hi]
      · rw [Array.getElem?_eq_none (by omega), Array.getElem?_eq_none (by rw [arrV_size]; omega)]
    rw [h2, e]
    rfl
  intro T hT X
  have hcellT : T.heap[t]? = some cell := by rw [hT]; exact hHt
  obtain ⟨-, kA, hkA, comp, hkind⟩ := State.isArrayOf_alike X.warmed.alike (id g2)
  obtain ⟨-, kS, hkS, compS, hkindS⟩ := id g2
  obtain ⟨vm', X', st'⟩ := X.cloneArray hx hown (hts _ hlink) (hts _ hsame) (hts _ hnat) (hts _ hinst) (hts _ hsel) (a := t) (cell := cell) hcellT g2.1 g3 hnm f2 f3
    (fun i v hv => by
      have hi : i < 4 := by have := (Array.getElem?_eq_some_iff.mp hv).1; omega
      rw [g6 i hi] at hv
      cases hv
      have hk' : T.vm.classes[cell.cls]? = some kA := hkA
      simp [State.fitsSlot, State.slotType?, hk', hkind, fits])
    (g := F0 m pc ls (.ref t :: st)) rfl (by rw [hml]; exact hl.1) rfl (by rw [hb]; exact hd) hR.1 (by show 2 * 0 + (st.map fun v => v.category).sum + 14 ≤ _; omega) hroom.1 (by rw [h3]; exact hroom.2) (hloader := Vm.clonesLoader_of_array hkS hkindS)
  rw [hcellE, h3] at X'
  generalize hH1 : H.push (vp_cell D.2.1 (4, .inl fsFirst)) = H1
  have z1 : H1.size = H.size + 1 := by rw [← hH1, Array.size_push]
  have e1 : H1[H.size]? = some (vp_cell D.2.1 (4, .inl fsFirst)) := by rw [← hH1, Array.getElem?_push_size]
  have o1 : ∀ q : Nat, q < H.size → H1[q]? = H[q]? := fun q hq => by rw [← hH1, Array.getElem?_push, if_neg (Nat.ne_of_lt hq)]
  have hk : ∀ (k : Nat) (y : Nat × va_E), ws[k]? = some y → H1[y.1]? = H[y.1]? := fun k y hy => o1 y.1 ((hP k y hy).lt)
  obtain ⟨t2, b1, b2⟩ := kk H.size H1 locs ls (fun h => by cases hro0.symm.trans h) ((hP.kept hk).app (fun k y hy => by
      have hz : k < 1 := (List.getElem?_eq_some_iff.mp hy).1
      rw [show k = 0 by omega] at hy
      cases hy
      exact e1)) (hD.push hP rfl (hA _ hS.1)) ⟨Nat.le_trans hS.1 (by omega), fun y h1 h2 => (o1 y (Nat.lt_of_lt_of_le h1 hS.1)).trans (hS.2.1 y h1 h2), hS.2.2⟩ hl
    ((T.setVm vm').pushCell (vp_cell D.2.1 (4, .inl fsFirst))) (by rw [← hH1, ← hT]; rfl) X'
  refine ⟨t2, st' t2 ?_, b2⟩
  rw [hcellE, hT]
  exact b1
end GMEM
