section BROWS2
variable {p : Program} {l : Launch} {e : Env} {R : Room} {s : State} {m : MethodId} {args : Array Value} {below : List Frame} {meth : Method} {c : Code} {D : DT} {A : Nat → Prop} {nL : Nat} {ro : Bool} {cs sl : Nat} {Q : State → Prop} {cc : ByteArray} {own : String} {Ts : List Cond} {lv : List (Nat × Value)} {st : List Value} {pc pc' : Nat}
variable {a : Nat → Nat} {f : Nat → Int32} {na : Nat → Nat → Int32} {w : Nat → Int32} {td : Nat → Int32} {vl : Nat → Int32} {L : Nat} {pt : Nat} {fl : Nat} {kd : Int32} {kp : Nat} {fq : Nat → Option Nat} {fs : Nat → Option Nat} {tl : va_W}
theorem gB_put_History_kept (X : GX p l e R s m args below meth c D A nL cc own Ts) {index v : Nat} (hro : ro = false) (hd : decode cc pc = .ok (.putfield index, 3)) (hin : ∀ w ∈ wsX10, w ∈ Ts) (hlink : Cond.fieldLink own index (TX1 1).1 (TX1 1).2.1 (TX1 1).2.2.1 ∈ Ts) (hp : pc + 3 = pc') (kk : GG p l e R s m args below meth c D A nL ro cs sl Q (wB D a f na w td vl L pt fl kd v fq fs tl) pc' lv st) : GG p l e R s m args below meth c D A nL ro cs sl Q (wB D a f na w td vl L pt fl kd kp fq fs tl) pc lv (.int (nI v) :: .ref (a 23) :: st) := g_put X (wB D a f na w td vl L pt fl kd v fq fs tl) hro hd hin tyX1_ok nmX1 rfl 21 rfl 1 (by decide) hlink rfl (ty := .int) (by decide +kernel) rfl rfl (Nat.le_of_ble_eq_true rfl) rfl hp kk
theorem gB_ld_values (X : GX p l e R s m args below meth c D A nL cc own Ts) {i : Int32} {k : Nat} (hd : decode cc pc = .ok (.iaload, 1)) (hi : i = nI k) (hk : k < 4) (hp : pc + 1 = pc') (kk : GG p l e R s m args below meth c D A nL ro cs sl Q (wB D a f na w td vl L pt fl kd kp fq fs tl) pc' lv (.int (vl k) :: st)) : GG p l e R s m args below meth c D A nL ro cs sl Q (wB D a f na w td vl L pt fl kd kp fq fs tl) pc lv (.int i :: .ref (a 22) :: st) := by
  obtain ⟨h1, h2⟩ := ix_of hi hk (by decide)
  refine g_iald X hd 19 rfl rfl h1 hp ?_
  rw [h2]
  exact kk
theorem gB_st_past (X : GX p l e R s m args below meth c D A nL cc own Ts) {i : Int32} {k v : Nat} (hro : ro = false) (hd : decode cc pc = .ok (.aastore, 1)) (hi : i = nI k) (hk : k < 7) (hv : ∃ (qk : Nat) (vs : List Value), (wB D a f na w td vl L pt fl kd kp fq fs tl)[qk]? = some (v, .inr (2, vs))) (hp : pc + 1 = pc') (kk : GG p l e R s m args below meth c D A nL ro cs sl Q (wB D a f na w td vl L pt fl kd kp (va_up fq k (some v)) fs tl) pc' lv st) : GG p l e R s m args below meth c D A nL ro cs sl Q (wB D a f na w td vl L pt fl kd kp fq fs tl) pc lv (.ref v :: .int i :: .ref (a 24) :: st) := by
  obtain ⟨h1, h2⟩ := ix_of hi hk (by decide)
  obtain ⟨qk, vs, hv⟩ := hv
  refine g_aast X (wB D a f na w td vl L pt fl kd kp (va_up fq k (some v)) fs tl) hro hd 22 rfl rfl (r := (RX2, TX2, 10)) rfl qk hv rfl h1 ?_ hp kk
  rw [h2]
  rfl
theorem gB_st_slots (X : GX p l e R s m args below meth c D A nL cc own Ts) {i : Int32} {k v : Nat} (hro : ro = false) (hd : decode cc pc = .ok (.aastore, 1)) (hi : i = nI k) (hk : k < 2) (hv : ∃ (qk : Nat) (vs : List Value), (wB D a f na w td vl L pt fl kd kp fq fs tl)[qk]? = some (v, .inr (2, vs))) (hp : pc + 1 = pc') (kk : GG p l e R s m args below meth c D A nL ro cs sl Q (wB D a f na w td vl L pt fl kd kp fq (va_up fs k (some v)) tl) pc' lv st) : GG p l e R s m args below meth c D A nL ro cs sl Q (wB D a f na w td vl L pt fl kd kp fq fs tl) pc lv (.ref v :: .int i :: .ref (a 25) :: st) := by
  obtain ⟨h1, h2⟩ := ix_of hi hk (by decide)
  obtain ⟨qk, vs, hv⟩ := hv
  refine g_aast X (wB D a f na w td vl L pt fl kd kp fq (va_up fs k (some v)) tl) hro hd 23 rfl rfl (r := (RX2, TX2, 10)) rfl qk hv rfl h1 ?_ hp kk
  rw [h2]
  rfl
end BROWS2
