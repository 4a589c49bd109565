/-! ===== the machine's facts at the law's entry ===== -/
theorem arr_of {s : State} {ty : FieldType} {args : Array Value} (h : (Cond.arrayClass ty).before args s = true) : ∃ cA : ClassId, s.vm.findClass ("[" ++ ty.toString) = some cA ∧ ArrOfT s cA ty := by
  obtain ⟨cA, kA, comp, h1, h2, h3⟩ := Cond.arrayClass_spec h
  exact ⟨cA, h1, fun n z => ⟨fun k h => (by cases h), kA, h2, comp, h3⟩⟩
theorem st4 {args : Array Value} {s : State} {n : String} {z0 z1 z2 z3 : Int32} {f : Nat → Int32} {A : Nat → Prop} (hl : (Cond.laysStatic "VisaPages" n "[I").before args s = true) (hini : (Cond.initialized "VisaPages").before args s = true)
    (harr : (Cond.arrayOf (.static "VisaPages" n "[I") .int).before args s = true) (hlen : (Cond.eq (.length (.static "VisaPages" n "[I")) (.int 4)).before args s = true)
    (e0 : (Cond.eq (.elem (.static "VisaPages" n "[I") (.int 0)) (.int z0)).before args s = true) (e1 : (Cond.eq (.elem (.static "VisaPages" n "[I") (.int 1)) (.int z1)).before args s = true) (e2 : (Cond.eq (.elem (.static "VisaPages" n "[I") (.int 2)) (.int z2)).before args s = true) (e3 : (Cond.eq (.elem (.static "VisaPages" n "[I") (.int 3)) (.int z3)).before args s = true)
    (f0 : f 0 = z0) (f1 : f 1 = z1) (f2 : f 2 = z2) (f3 : f 3 = z3) (hA : ∀ a : Nat, a < s.heap.size → ¬ A a) :
    ∃ t : Nat, (Term.static "VisaPages" n "[I").eval args s none [] s = some (.ref t) ∧ va_Z "VisaPages" n "[I" (.ref t) A s s.heap ∧ va_T .int t 4 (fun j => .int (f j)) A s s.heap := by
  obtain ⟨t, h1, h2⟩ := va_Tof (f := fun j => .int (f j)) (A := A) (N := 4) (by decide) harr (va_eqt hlen) (fun j hj => by
    match j, hj with
    | 0, _ => rw [f0]; exact va_eqt e0
    | 1, _ => rw [f1]; exact va_eqt e1
    | 2, _ => rw [f2]; exact va_eqt e2
    | 3, _ => rw [f3]; exact va_eqt e3) hA
  exact ⟨t, h1, va_Zof hl hini h1 hA, h2⟩
theorem ex_size {args : Array Value} {s : State} {t : Nat} {n : String} {f : Nat → Value} {A : Nat → Prop} {cA : ClassId} {D : DT} (ht : (Term.static "VisaPages" n "[I").eval args s none [] s = some (.ref t)) (hlen : (Cond.eq (.length (.static "VisaPages" n "[I")) (.int 4)).before args s = true)
    (hex : (Cond.exactly (.static "VisaPages" n "[I") "[I").before args s = true) (hT : va_T .int t 4 f A s s.heap) (hc : s.vm.findClass "[I" = some cA) (hD : D.2.1 = cA) : exS D t s.heap := by
  have hl := va_eqt hlen
  obtain ⟨t2, cell, h1, h2, h3⟩ := Term.length_spec hl
  cases ht.symm.trans h1
  obtain ⟨hcell, -, -, -⟩ := State.arrayAt?_spec h2
  obtain ⟨a, c0, cell2, k, q1, q2, q3, q4, q5, q6, -⟩ := Cond.exactly_spec (args := args) (first := s) (o := none) (s := s) (idx := []) (t := .static "VisaPages" n "[I") (cls := "[I") hex
  cases ht.symm.trans q1
  cases hcell.symm.trans q3
  have ec : c0 = cA := Option.some.inj (q2.symm.trans hc)
  have hsz : cell.slots.size < 2 ^ 31 := by
    apply Classical.byContradiction
    intro hn
    have h := hl
    have h4 : ¬ cell.slots.size < 2147483648 := hn
    unfold Term.eval at h
    rw [ht] at h
    simp [h2, h4] at h
  refine ⟨cell, hcell, by rw [hD, q6, ec], ?_⟩
  have h5 : nI 4 = nI cell.slots.size := Value.int.inj h3
  exact ((nI_eq (a := 4) (b := cell.slots.size) (by omega) hsz).mp h5).symm
set_option maxRecDepth 20000 in
set_option maxHeartbeats 8000000 in
theorem law_K {s : State} {args : Array Value} (hts : ∀ w ∈ lw_tbl, w.before args s = true) : ∃ D1 : va_G, ∀ (k : Nat) (q : vw_C), vwCl[k]? = some q → u_Kn s q.1 q.2.1 q.2.2 (D1.1 k) (D1.2 k) := by
  obtain ⟨c0, i0, h0⟩ := u_known (C := RX0) (T := TX0) (N := 7) (n := 7) hts inX0 (hts (.instantiable RX0 7) (by decide +kernel))
  obtain ⟨c1, i1, h1⟩ := u_known (C := RX1) (T := TX1) (N := 2) (n := 2) hts inX1 (hts (.instantiable RX1 2) (by decide +kernel))
  obtain ⟨c2, i2, h2⟩ := u_known (C := RX2) (T := TX2) (N := 10) (n := 10) hts inX2 (hts (.instantiable RX2 10) (by decide +kernel))
  obtain ⟨c3, i3, h3⟩ := u_known (C := RX3) (T := TX3) (N := 6) (n := 6) hts inX3 (hts (.instantiable RX3 6) (by decide +kernel))
  obtain ⟨c4, i4, h4⟩ := u_known (C := RX4) (T := TX4) (N := 8) (n := 8) hts inX4 (hts (.instantiable RX4 8) (by decide +kernel))
  obtain ⟨c5, i5, h5⟩ := u_known (C := RX5) (T := TX5) (N := 2) (n := 2) hts inX5 (hts (.instantiable RX5 2) (by decide +kernel))
  obtain ⟨c6, i6, h6⟩ := u_known (C := RX6) (T := TX6) (N := 5) (n := 5) hts inX6 (hts (.instantiable RX6 5) (by decide +kernel))
  refine ⟨(fun k => match k with | 0 => c0 | 1 => c1 | 2 => c2 | 3 => c3 | 4 => c4 | 5 => c5 | _ => c6, fun k => match k with | 0 => i0 | 1 => i1 | 2 => i2 | 3 => i3 | 4 => i4 | 5 => i5 | _ => i6), ?_⟩
  intro k q hq
  match k, hq with
  | 0, hq => cases hq; exact h0
  | 1, hq => cases hq; exact h1
  | 2, hq => cases hq; exact h2
  | 3, hq => cases hq; exact h3
  | 4, hq => cases hq; exact h4
  | 5, hq => cases hq; exact h5
  | 6, hq => cases hq; exact h6
  | k + 7, hq => simp [vwCl] at hq
def tmS (i : Nat) : Term := .string "VisaPages$Pad" (73 + 2 * i)
set_option maxRecDepth 20000 in
set_option maxHeartbeats 8000000 in
theorem law_S {s : State} {args : Array Value} {A : Nat → Prop} (hs : ∀ w ∈ flatC (Jvm.Cond.and given_1 narrow_1), w.before args s = true) (hA : ∀ a : Nat, a < s.heap.size → ¬ A a) : ∃ adK adV : Nat → Nat, vk_S 7 lenS bytS adK adV A s s.heap ∧ ∀ i : Nat, i < 7 → (tmS i).eval args s none [] s = some (.ref (adK i)) := by
  have m1 : ∀ i, i < 7 → Cond.exactly (tmS i) "java/lang/String" ∈ flatC (Jvm.Cond.and given_1 narrow_1) := by decide +kernel
  have m2 : ∀ i, i < 7 → Cond.eq (.field (tmS i) "java/lang/String" "coder" "B") (.int 0) ∈ flatC (Jvm.Cond.and given_1 narrow_1) := by decide +kernel
  have m3 : ∀ i, i < 7 → Cond.arrayOf (.field (tmS i) "java/lang/String" "value" "[B") .byte ∈ flatC (Jvm.Cond.and given_1 narrow_1) := by decide +kernel
  have m4 : ∀ i, i < 7 → Cond.eq (.length (.field (tmS i) "java/lang/String" "value" "[B")) (.int (Int32.ofNat (lenS.getD i 0))) ∈ flatC (Jvm.Cond.and given_1 narrow_1) := by decide +kernel
  have m5 : ∀ i, i < 7 → ∀ j, j < lenS.getD i 0 → Cond.eq (.elem (.field (tmS i) "java/lang/String" "value" "[B") (.int (Int32.ofNat j))) (.int ((bytS.getD i []).getD j 0)) ∈ flatC (Jvm.Cond.and given_1 narrow_1) := by decide +kernel
  have m6 : ∀ i, i < 7 → ∀ j, j < 7 → i ≠ j → (Cond.not (Cond.eq (tmS i) (tmS j)) ∈ flatC (Jvm.Cond.and given_1 narrow_1) ∨ Cond.not (Cond.eq (tmS j) (tmS i)) ∈ flatC (Jvm.Cond.and given_1 narrow_1)) := by decide +kernel
  exact vk_Sof (by decide) (fun i hi => hs _ (m1 i hi)) (fun i hi => hs _ (m2 i hi)) (fun i hi => hs _ (m3 i hi)) (fun i hi => hs _ (m4 i hi)) (fun i hi j hj => hs _ (m5 i hi j hj)) (fun i j hi hj hij => (m6 i hi j hj hij).imp (fun h => hs _ h) (fun h => hs _ h)) hA
set_option maxRecDepth 20000 in
set_option maxHeartbeats 8000000 in
theorem law_EX {s : State} {args : Array Value} {A : Nat → Prop} (hts : ∀ w ∈ lw_tbl, w.before args s = true) (hgv : (Jvm.Cond.and given_1 narrow_1).before args s = true) (hA : ∀ a : Nat, a < s.heap.size → ¬ A a) : ∃ D : DT, EX D A s s.heap := by
  have hs : ∀ w ∈ flatC (Jvm.Cond.and given_1 narrow_1), w.before args s = true := flat_of_before _ hgv
  obtain ⟨D1, hK⟩ := law_K hts
  obtain ⟨adK, adV, hS, hSe⟩ := law_S hs hA
  obtain ⟨cI, hI1, hI2⟩ := arr_of (ty := .int) (hts (.arrayClass .int) (by decide +kernel))
  obtain ⟨cC, hC1, hC2⟩ := arr_of (ty := .char) (hts (.arrayClass .char) (by decide +kernel))
  have hO := hts (.arrayOver (.object RX2)) (by decide +kernel)
  obtain ⟨comp, cQ, kQ, o1, -, o3, o4, o5⟩ := Cond.arrayOver_spec hO
  obtain ⟨t0, z0, s0, r0⟩ := st4 (n := "FIRST_SETTINGS") (f := fsFirst) (z0 := 4) (z1 := 1) (z2 := 2) (z3 := 0) (hts _ (by decide +kernel)) (hts (.initialized "VisaPages") (by decide +kernel)) (hs _ (by decide +kernel)) (hs _ (by decide +kernel)) (hs _ (by decide +kernel)) (hs _ (by decide +kernel)) (hs _ (by decide +kernel)) (hs _ (by decide +kernel)) rfl rfl rfl rfl hA
  obtain ⟨t1, z1, s1, r1⟩ := st4 (n := "LEAST") (f := fsLeast) (z0 := 1) (z1 := 0) (z2 := 0) (z3 := 0) (hts _ (by decide +kernel)) (hts (.initialized "VisaPages") (by decide +kernel)) (hs _ (by decide +kernel)) (hs _ (by decide +kernel)) (hs _ (by decide +kernel)) (hs _ (by decide +kernel)) (hs _ (by decide +kernel)) (hs _ (by decide +kernel)) rfl rfl rfl rfl hA
  obtain ⟨t2, z2, s2, r2⟩ := st4 (n := "MOST") (f := fsMost) (z0 := 8) (z1 := 1) (z2 := 2) (z3 := 1) (hts _ (by decide +kernel)) (hts (.initialized "VisaPages") (by decide +kernel)) (hs _ (by decide +kernel)) (hs _ (by decide +kernel)) (hs _ (by decide +kernel)) (hs _ (by decide +kernel)) (hs _ (by decide +kernel)) (hs _ (by decide +kernel)) rfl rfl rfl rfl hA
  have hI3 : s.vm.findClass "[I" = some cI := va_nm_int (show va_RA s cI .int from hI1)
  have hnm : ∀ w ∈ nwL, w ∈ lw_tbl := by decide +kernel
  have hno : ∀ w ∈ nwL, w.onTables = true := by decide +kernel
  have hst : ∀ i, i < 7 → Cond.stringRef RX3 (73 + 2 * i) (txS i) ∈ lw_tbl := by decide +kernel
  refine ⟨(D1, cI, cI, cC, cQ, adK, adV), ⟨hK, ?_⟩, fun w hw => va_Nw.of (hno w hw) (hts w (hnm w hw)), ⟨va_Nw.of rfl (hts _ (by decide +kernel)), va_AO.of hO⟩, ⟨t0, s0, r0, ex_size z0 (hs _ (by decide +kernel)) (hs _ (by decide +kernel)) r0 hI3 rfl⟩, ⟨t1, s1, r1⟩, ⟨t2, s2, r2⟩,
    va_Zof (hts _ (by decide +kernel)) (hts _ (by decide +kernel)) (va_eqi (hs _ (by decide +kernel))) hA, va_Zqof (hts _ (by decide +kernel)) (hts _ (by decide +kernel)) (hs _ (by decide +kernel)) hA, hS, fun i hi => vk_R.of (hts _ (hst i hi)) (hSe i hi)⟩
  intro k q hq
  match k, hq with
  | 0, hq => cases hq; exact ⟨hI2, hI1⟩
  | 1, hq => cases hq; exact ⟨hI2, hI1⟩
  | 2, hq => cases hq; exact ⟨hC2, hC1⟩
  | 3, hq => cases hq; exact ⟨fun n z => ⟨fun k h => (by cases h), kQ, o3, comp, o4⟩, kQ, comp, o3, o4, o1, o5⟩
  | k + 4, hq => simp [tyD] at hq
