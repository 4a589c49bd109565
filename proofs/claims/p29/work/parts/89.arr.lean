section GARR
variable {p : Program} {l : Launch} {e : Env} {R : Room} {s : State} {m : MethodId} {args : Array Value} {below : List Frame} {meth : Method} {c : Code} {D : DT} {A : Nat → Prop} {nL : Nat} {ro : Bool} {cs sl : Nat} {Q : State → Prop} {cc : ByteArray} {own : String} {Ts : List Cond} {lv : List (Nat × Value)} {st : List Value} {pc pc' : Nat}
variable {q : Nat} {F : Nat → Int32} {c1 : Nat × va_E} {w0 W : va_W}
theorem g_ldA0 (X : GX p l e R s m args below meth c D A nL cc own Ts) {i : Int32} {k : Nat} (hd : decode cc pc = .ok (.iaload, 1)) (hi : i = nI k) (hk : k < 8) (hp : pc + 1 = pc') (kk : GG p l e R s m args below meth c D A nL ro cs sl Q ([(q, .inl (D.2.1, 8, .inl F)), c1] ++ W) pc' lv (.int (F k) :: st)) : GG p l e R s m args below meth c D A nL ro cs sl Q ([(q, .inl (D.2.1, 8, .inl F)), c1] ++ W) pc lv (.int i :: .ref q :: st) := by
  obtain ⟨h1, h2⟩ := ix_of hi hk (by decide)
  refine g_iald X hd 0 rfl rfl h1 hp ?_
  rw [h2]
  exact kk
theorem g_stA0 (X : GX p l e R s m args below meth c D A nL cc own Ts) {i x : Int32} {k : Nat} (hro : ro = false) (hd : decode cc pc = .ok (.iastore, 1)) (hi : i = nI k) (hk : k < 8) (hp : pc + 1 = pc') (kk : GG p l e R s m args below meth c D A nL ro cs sl Q ([(q, .inl (D.2.1, 8, .inl (up F k x))), c1] ++ W) pc' lv st) : GG p l e R s m args below meth c D A nL ro cs sl Q ([(q, .inl (D.2.1, 8, .inl F)), c1] ++ W) pc lv (.int x :: .int i :: .ref q :: st) := by
  obtain ⟨h1, h2⟩ := ix_of hi hk (by decide)
  refine g_iast X ([(q, .inl (D.2.1, 8, .inl (up F k x))), c1] ++ W) hro hd 0 rfl rfl h1 ?_ hp kk
  rw [h2, upd_up]
  rfl
theorem g_ldA1 (X : GX p l e R s m args below meth c D A nL cc own Ts) {i : Int32} {k : Nat} (hd : decode cc pc = .ok (.iaload, 1)) (hi : i = nI k) (hk : k < 8) (hp : pc + 1 = pc') (kk : GG p l e R s m args below meth c D A nL ro cs sl Q ([c1, (q, .inl (D.2.1, 8, .inl F))] ++ W) pc' lv (.int (F k) :: st)) : GG p l e R s m args below meth c D A nL ro cs sl Q ([c1, (q, .inl (D.2.1, 8, .inl F))] ++ W) pc lv (.int i :: .ref q :: st) := by
  obtain ⟨h1, h2⟩ := ix_of hi hk (by decide)
  refine g_iald X hd 1 rfl rfl h1 hp ?_
  rw [h2]
  exact kk
theorem g_stA1 (X : GX p l e R s m args below meth c D A nL cc own Ts) {i x : Int32} {k : Nat} (hro : ro = false) (hd : decode cc pc = .ok (.iastore, 1)) (hi : i = nI k) (hk : k < 8) (hp : pc + 1 = pc') (kk : GG p l e R s m args below meth c D A nL ro cs sl Q ([c1, (q, .inl (D.2.1, 8, .inl (up F k x)))] ++ W) pc' lv st) : GG p l e R s m args below meth c D A nL ro cs sl Q ([c1, (q, .inl (D.2.1, 8, .inl F))] ++ W) pc lv (.int x :: .int i :: .ref q :: st) := by
  obtain ⟨h1, h2⟩ := ix_of hi hk (by decide)
  refine g_iast X ([c1, (q, .inl (D.2.1, 8, .inl (up F k x)))] ++ W) hro hd 1 rfl rfl h1 ?_ hp kk
  rw [h2, upd_up]
  rfl
theorem g_drop (kk : GG p l e R s m args below meth c D A nL ro cs sl Q W pc lv st) : GG p l e R s m args below meth c D A nL ro cs sl Q (w0 ++ W) pc lv st := fun H locs ls hro hP hD hS hl =>
  kk H locs ls hro (fun k y hk => hP (w0.length + k) y (by rw [List.getElem?_append_right (by omega), Nat.add_sub_cancel_left]; exact hk))
    ⟨fun i j x y hi hj hxy => by
      have := hD.1 (w0.length + i) (w0.length + j) x y (by rw [List.getElem?_append_right (by omega), Nat.add_sub_cancel_left]; exact hi) (by rw [List.getElem?_append_right (by omega), Nat.add_sub_cancel_left]; exact hj) hxy
      omega, fun k y hk => hD.2 (w0.length + k) y (by rw [List.getElem?_append_right (by omega), Nat.add_sub_cancel_left]; exact hk)⟩ hS hl
end GARR
