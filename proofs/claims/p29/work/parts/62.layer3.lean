section GL3
variable {p : Program} {l : Launch} {e : Env} {R : Room} {s : State} {m : MethodId} {args : Array Value} {below : List Frame} {meth : Method} {c : Code} {D : DT} {A : Nat → Prop} {nL : Nat} {ro : Bool} {cs sl : Nat} {Q : State → Prop} {cc : ByteArray} {own : String} {Ts : List Cond} {ws : va_W} {lv : List (Nat × Value)} {st : List Value} {pc pc' : Nat}
theorem g_getsN (X : GX p l e R s m args below meth c D A nL cc own Ts) {C n dd host : String} {v : Value} {index : Nat} (hd : decode cc pc = .ok (.getstatic index, 3)) (hlink : Cond.fieldLinkNest own index C n dd host ∈ nwL) (hZ : va_Z C n dd v A s s.heap) (hp : pc + 3 = pc') (kk : GG p l e R s m args below meth c D A nL ro cs sl Q ws pc' lv (v :: st)) : GG p l e R s m args below meth c D A nL ro cs sl Q ws pc lv st := by
  subst hp
  obtain ⟨hx, hb, hml, hown, hts, hlk, hE⟩ := X
  intro H locs ls hro hP hD hS hl
  exact va_getsN hx hb hZ hS hown (va_tabs (c := Cond.fieldLinkNest own index C n dd host) rfl rfl (hE.2.1 _ hlink)) (fun x h => h) hd (kk H locs ls hro hP hD hS hl)
theorem g_gets (X : GX p l e R s m args below meth c D A nL cc own Ts) {C n dd : String} {v : Value} {index : Nat} (hd : decode cc pc = .ok (.getstatic index, 3)) (hlink : Cond.fieldLink own index C n dd ∈ Ts) (hZ : va_Z C n dd v A s s.heap) (hp : pc + 3 = pc') (kk : GG p l e R s m args below meth c D A nL ro cs sl Q ws pc' lv (v :: st)) : GG p l e R s m args below meth c D A nL ro cs sl Q ws pc lv st := by
  subst hp
  obtain ⟨hx, hb, hml, hown, hts, hlk, hE⟩ := X
  intro H locs ls hro hP hD hS hl
  exact va_gets hx hb hZ hS hown (hts _ hlink) (fun x h => h) hd (kk H locs ls hro hP hD hS hl)
theorem g_tld (X : GX p l e R s m args below meth c D A nL cc own Ts) {t N k : Nat} {f : Nat → Int32} {i : Int32} (hT : va_T .int t N (fun j => .int (f j)) A s s.heap) (hd : decode cc pc = .ok (.iaload, 1)) (hi : i = nI k) (hk : k < N) (hN : N < 2 ^ 31) (hp : pc + 1 = pc') (kk : GG p l e R s m args below meth c D A nL ro cs sl Q ws pc' lv (.int (f k) :: st)) : GG p l e R s m args below meth c D A nL ro cs sl Q ws pc lv (.int i :: .ref t :: st) := by
  subst hp
  obtain ⟨hx, hb, hml, hown, hts, hlk, hE⟩ := X
  intro H locs ls hro hP hD hS hl
  obtain ⟨h1, h2⟩ := ix_of hi hk hN
  exact va_ti hx hb hT hS h1 (by rw [h2]) hd (kk H locs ls hro hP hD hS hl)
theorem GX.first (X : GX p l e R s m args below meth c D A nL cc own Ts) : ∃ t : Nat, va_Z "VisaPages" "FIRST_SETTINGS" "[I" (.ref t) A s s.heap ∧ va_T .int t 4 (fun j => .int (fsFirst j)) A s s.heap ∧ exS D t s.heap := X.2.2.2.2.2.2.2.2.2.1
theorem GX.least (X : GX p l e R s m args below meth c D A nL cc own Ts) : ∃ t : Nat, va_Z "VisaPages" "LEAST" "[I" (.ref t) A s s.heap ∧ va_T .int t 4 (fun j => .int (fsLeast j)) A s s.heap := X.2.2.2.2.2.2.2.2.2.2.1
theorem GX.most (X : GX p l e R s m args below meth c D A nL cc own Ts) : ∃ t : Nat, va_Z "VisaPages" "MOST" "[I" (.ref t) A s s.heap ∧ va_T .int t 4 (fun j => .int (fsMost j)) A s s.heap := X.2.2.2.2.2.2.2.2.2.2.2.1
end GL3
theorem lim_lo : ∀ q, q < 4 → (fsLeast q).toInt = (if nI q = 0 then (1 : Int) else 0) := by decide +kernel
theorem lim_hi : ∀ q, q < 4 → (fsMost q).toInt = (hiS (nI q)).toInt := by decide +kernel
