/-! ===== the pad: td its text, vl its values, L its length, pt where it reads, fl how many values, kd the order's kind ===== -/
def wP (D : DT) (a : Nat → Nat) (td vl : Nat → Int32) (L pt fl : Nat) (kd : Int32) : va_W := [
  (a 20, .inr (3, [.ref (a 21), .ref (a 22), .int (nI L), .int (nI pt), .int (nI fl), .int kd])), (a 21, .inl (D.2.2.2.1, 80, .inl td)), (a 22, .inl (D.2.1, 4, .inl vl))]
section PROWS
variable {p : Program} {l : Launch} {e : Env} {R : Room} {s : State} {m : MethodId} {args : Array Value} {below : List Frame} {meth : Method} {c : Code} {D : DT} {A : Nat → Prop} {nL : Nat} {ro : Bool} {cs sl : Nat} {Q : State → Prop} {cc : ByteArray} {own : String} {Ts : List Cond} {lv : List (Nat × Value)} {st : List Value} {pc pc' : Nat}
variable {a : Nat → Nat} {td vl : Nat → Int32} {L pt fl : Nat} {kd : Int32}
theorem gP_get_text (X : GX p l e R s m args below meth c D A nL cc own Ts) {index : Nat} (hd : decode cc pc = .ok (.getfield index, 3)) (hin : ∀ w ∈ wsX30, w ∈ Ts) (hlink : Cond.fieldLink own index (TX3 0).1 (TX3 0).2.1 (TX3 0).2.2.1 ∈ Ts) (hp : pc + 3 = pc') (kk : GG p l e R s m args below meth c D A nL ro cs sl Q (wP D a td vl L pt fl kd) pc' lv (.ref (a 21) :: st)) : GG p l e R s m args below meth c D A nL ro cs sl Q (wP D a td vl L pt fl kd) pc lv (.ref (a 20) :: st) := g_get X hd hin rfl 0 rfl 0 (by decide) hlink rfl hp kk
theorem gP_get_values (X : GX p l e R s m args below meth c D A nL cc own Ts) {index : Nat} (hd : decode cc pc = .ok (.getfield index, 3)) (hin : ∀ w ∈ wsX30, w ∈ Ts) (hlink : Cond.fieldLink own index (TX3 1).1 (TX3 1).2.1 (TX3 1).2.2.1 ∈ Ts) (hp : pc + 3 = pc') (kk : GG p l e R s m args below meth c D A nL ro cs sl Q (wP D a td vl L pt fl kd) pc' lv (.ref (a 22) :: st)) : GG p l e R s m args below meth c D A nL ro cs sl Q (wP D a td vl L pt fl kd) pc lv (.ref (a 20) :: st) := g_get X hd hin rfl 0 rfl 1 (by decide) hlink rfl hp kk
theorem gP_get_length (X : GX p l e R s m args below meth c D A nL cc own Ts) {index : Nat} (hd : decode cc pc = .ok (.getfield index, 3)) (hin : ∀ w ∈ wsX30, w ∈ Ts) (hlink : Cond.fieldLink own index (TX3 2).1 (TX3 2).2.1 (TX3 2).2.2.1 ∈ Ts) (hp : pc + 3 = pc') (kk : GG p l e R s m args below meth c D A nL ro cs sl Q (wP D a td vl L pt fl kd) pc' lv (.int (nI L) :: st)) : GG p l e R s m args below meth c D A nL ro cs sl Q (wP D a td vl L pt fl kd) pc lv (.ref (a 20) :: st) := g_get X hd hin rfl 0 rfl 2 (by decide) hlink rfl hp kk
theorem gP_put_length (X : GX p l e R s m args below meth c D A nL cc own Ts) {index : Nat} {v : Nat} (hro : ro = false) (hd : decode cc pc = .ok (.putfield index, 3)) (hin : ∀ w ∈ wsX30, w ∈ Ts) (hlink : Cond.fieldLink own index (TX3 2).1 (TX3 2).2.1 (TX3 2).2.2.1 ∈ Ts) (hp : pc + 3 = pc') (kk : GG p l e R s m args below meth c D A nL ro cs sl Q (wP D a td vl v pt fl kd) pc' lv st) : GG p l e R s m args below meth c D A nL ro cs sl Q (wP D a td vl L pt fl kd) pc lv (.int (nI v) :: .ref (a 20) :: st) := g_put X (wP D a td vl v pt fl kd) hro hd hin tyX3_ok nmX3 rfl 0 rfl 2 (by decide) hlink rfl (ty := .int) (by decide +kernel) rfl rfl (Nat.le_of_ble_eq_true rfl) rfl hp kk
theorem gP_get_at (X : GX p l e R s m args below meth c D A nL cc own Ts) {index : Nat} (hd : decode cc pc = .ok (.getfield index, 3)) (hin : ∀ w ∈ wsX30, w ∈ Ts) (hlink : Cond.fieldLink own index (TX3 3).1 (TX3 3).2.1 (TX3 3).2.2.1 ∈ Ts) (hp : pc + 3 = pc') (kk : GG p l e R s m args below meth c D A nL ro cs sl Q (wP D a td vl L pt fl kd) pc' lv (.int (nI pt) :: st)) : GG p l e R s m args below meth c D A nL ro cs sl Q (wP D a td vl L pt fl kd) pc lv (.ref (a 20) :: st) := g_get X hd hin rfl 0 rfl 3 (by decide) hlink rfl hp kk
theorem gP_put_at (X : GX p l e R s m args below meth c D A nL cc own Ts) {index : Nat} {v : Nat} (hro : ro = false) (hd : decode cc pc = .ok (.putfield index, 3)) (hin : ∀ w ∈ wsX30, w ∈ Ts) (hlink : Cond.fieldLink own index (TX3 3).1 (TX3 3).2.1 (TX3 3).2.2.1 ∈ Ts) (hp : pc + 3 = pc') (kk : GG p l e R s m args below meth c D A nL ro cs sl Q (wP D a td vl L v fl kd) pc' lv st) : GG p l e R s m args below meth c D A nL ro cs sl Q (wP D a td vl L pt fl kd) pc lv (.int (nI v) :: .ref (a 20) :: st) := g_put X (wP D a td vl L v fl kd) hro hd hin tyX3_ok nmX3 rfl 0 rfl 3 (by decide) hlink rfl (ty := .int) (by decide +kernel) rfl rfl (Nat.le_of_ble_eq_true rfl) rfl hp kk
theorem gP_get_filled (X : GX p l e R s m args below meth c D A nL cc own Ts) {index : Nat} (hd : decode cc pc = .ok (.getfield index, 3)) (hin : ∀ w ∈ wsX30, w ∈ Ts) (hlink : Cond.fieldLink own index (TX3 4).1 (TX3 4).2.1 (TX3 4).2.2.1 ∈ Ts) (hp : pc + 3 = pc') (kk : GG p l e R s m args below meth c D A nL ro cs sl Q (wP D a td vl L pt fl kd) pc' lv (.int (nI fl) :: st)) : GG p l e R s m args below meth c D A nL ro cs sl Q (wP D a td vl L pt fl kd) pc lv (.ref (a 20) :: st) := g_get X hd hin rfl 0 rfl 4 (by decide) hlink rfl hp kk
theorem gP_put_filled (X : GX p l e R s m args below meth c D A nL cc own Ts) {index : Nat} {v : Nat} (hro : ro = false) (hd : decode cc pc = .ok (.putfield index, 3)) (hin : ∀ w ∈ wsX30, w ∈ Ts) (hlink : Cond.fieldLink own index (TX3 4).1 (TX3 4).2.1 (TX3 4).2.2.1 ∈ Ts) (hp : pc + 3 = pc') (kk : GG p l e R s m args below meth c D A nL ro cs sl Q (wP D a td vl L pt v kd) pc' lv st) : GG p l e R s m args below meth c D A nL ro cs sl Q (wP D a td vl L pt fl kd) pc lv (.int (nI v) :: .ref (a 20) :: st) := g_put X (wP D a td vl L pt v kd) hro hd hin tyX3_ok nmX3 rfl 0 rfl 4 (by decide) hlink rfl (ty := .int) (by decide +kernel) rfl rfl (Nat.le_of_ble_eq_true rfl) rfl hp kk
theorem gP_get_kind (X : GX p l e R s m args below meth c D A nL cc own Ts) {index : Nat} (hd : decode cc pc = .ok (.getfield index, 3)) (hin : ∀ w ∈ wsX30, w ∈ Ts) (hlink : Cond.fieldLink own index (TX3 5).1 (TX3 5).2.1 (TX3 5).2.2.1 ∈ Ts) (hp : pc + 3 = pc') (kk : GG p l e R s m args below meth c D A nL ro cs sl Q (wP D a td vl L pt fl kd) pc' lv (.int kd :: st)) : GG p l e R s m args below meth c D A nL ro cs sl Q (wP D a td vl L pt fl kd) pc lv (.ref (a 20) :: st) := g_get X hd hin rfl 0 rfl 5 (by decide) hlink rfl hp kk
theorem gP_put_kind (X : GX p l e R s m args below meth c D A nL cc own Ts) {index : Nat} {v : Int32} (hro : ro = false) (hd : decode cc pc = .ok (.putfield index, 3)) (hin : ∀ w ∈ wsX30, w ∈ Ts) (hlink : Cond.fieldLink own index (TX3 5).1 (TX3 5).2.1 (TX3 5).2.2.1 ∈ Ts) (hnv : narrow .char (.int v) = .int v) (hfv : fits .char (.int v) = true) (hp : pc + 3 = pc') (kk : GG p l e R s m args below meth c D A nL ro cs sl Q (wP D a td vl L pt fl v) pc' lv st) : GG p l e R s m args below meth c D A nL ro cs sl Q (wP D a td vl L pt fl kd) pc lv (.int v :: .ref (a 20) :: st) := g_put X (wP D a td vl L pt fl v) hro hd hin tyX3_ok nmX3 rfl 0 rfl 5 (by decide) hlink rfl (ty := .char) (by decide +kernel) hnv hfv (Nat.le_of_ble_eq_true rfl) rfl hp kk
theorem gP_ld_text (X : GX p l e R s m args below meth c D A nL cc own Ts) {i : Int32} {k : Nat} (hd : decode cc pc = .ok (.caload, 1)) (hi : i = nI k) (hk : k < 80) (hp : pc + 1 = pc') (kk : GG p l e R s m args below meth c D A nL ro cs sl Q (wP D a td vl L pt fl kd) pc' lv (.int (td k) :: st)) : GG p l e R s m args below meth c D A nL ro cs sl Q (wP D a td vl L pt fl kd) pc lv (.int i :: .ref (a 21) :: st) := by
  obtain ⟨h1, h2⟩ := ix_of hi hk (by decide)
  refine g_cald X hd 1 rfl rfl h1 hp ?_
  rw [h2]
  exact kk
theorem gP_st_text (X : GX p l e R s m args below meth c D A nL cc own Ts) {i x : Int32} {k : Nat} (hro : ro = false) (hd : decode cc pc = .ok (.castore, 1)) (hi : i = nI k) (hk : k < 80) (hxv : vp_nar .char x = x) (hp : pc + 1 = pc') (kk : GG p l e R s m args below meth c D A nL ro cs sl Q (wP D a (up td k x) vl L pt fl kd) pc' lv st) : GG p l e R s m args below meth c D A nL ro cs sl Q (wP D a td vl L pt fl kd) pc lv (.int x :: .int i :: .ref (a 21) :: st) := by
  obtain ⟨h1, h2⟩ := ix_of hi hk (by decide)
  refine g_cast X (wP D a (up td k x) vl L pt fl kd) hro hd 1 rfl rfl h1 ?_ hp kk
  rw [h2, hxv, upd_up]
  rfl
theorem gP_ld_values (X : GX p l e R s m args below meth c D A nL cc own Ts) {i : Int32} {k : Nat} (hd : decode cc pc = .ok (.iaload, 1)) (hi : i = nI k) (hk : k < 4) (hp : pc + 1 = pc') (kk : GG p l e R s m args below meth c D A nL ro cs sl Q (wP D a td vl L pt fl kd) pc' lv (.int (vl k) :: st)) : GG p l e R s m args below meth c D A nL ro cs sl Q (wP D a td vl L pt fl kd) pc lv (.int i :: .ref (a 22) :: st) := by
  obtain ⟨h1, h2⟩ := ix_of hi hk (by decide)
  refine g_iald X hd 2 rfl rfl h1 hp ?_
  rw [h2]
  exact kk
theorem gP_st_values (X : GX p l e R s m args below meth c D A nL cc own Ts) {i x : Int32} {k : Nat} (hro : ro = false) (hd : decode cc pc = .ok (.iastore, 1)) (hi : i = nI k) (hk : k < 4) (hp : pc + 1 = pc') (kk : GG p l e R s m args below meth c D A nL ro cs sl Q (wP D a td (up vl k x) L pt fl kd) pc' lv st) : GG p l e R s m args below meth c D A nL ro cs sl Q (wP D a td vl L pt fl kd) pc lv (.int x :: .int i :: .ref (a 22) :: st) := by
  obtain ⟨h1, h2⟩ := ix_of hi hk (by decide)
  refine g_iast X (wP D a td (up vl k x) L pt fl kd) hro hd 2 rfl rfl h1 ?_ hp kk
  rw [h2, upd_up]
  rfl
theorem gP_len_values (X : GX p l e R s m args below meth c D A nL cc own Ts) (hd : decode cc pc = .ok (.arraylength, 1)) (hp : pc + 1 = pc') (kk : GG p l e R s m args below meth c D A nL ro cs sl Q (wP D a td vl L pt fl kd) pc' lv (.int 4 :: st)) : GG p l e R s m args below meth c D A nL ro cs sl Q (wP D a td vl L pt fl kd) pc lv (.ref (a 22) :: st) := g_alen X hd 2 rfl 0 rfl rfl hp kk
theorem wP_td {D : DT} {a : Nat → Nat} {td vl : Nat → Int32} {L pt fl : Nat} {kd : Int32} {td' : Nat → Int32} (h : td = td') : (wP D a td vl L pt fl kd) = (wP D a td' vl L pt fl kd) := by rw [h]
theorem wP_vl {D : DT} {a : Nat → Nat} {td vl : Nat → Int32} {L pt fl : Nat} {kd : Int32} {vl' : Nat → Int32} (h : vl = vl') : (wP D a td vl L pt fl kd) = (wP D a td vl' L pt fl kd) := by rw [h]
theorem wP_L {D : DT} {a : Nat → Nat} {td vl : Nat → Int32} {L pt fl : Nat} {kd : Int32} {L' : Nat} (h : L = L') : (wP D a td vl L pt fl kd) = (wP D a td vl L' pt fl kd) := by rw [h]
theorem wP_pt {D : DT} {a : Nat → Nat} {td vl : Nat → Int32} {L pt fl : Nat} {kd : Int32} {pt' : Nat} (h : pt = pt') : (wP D a td vl L pt fl kd) = (wP D a td vl L pt' fl kd) := by rw [h]
theorem wP_fl {D : DT} {a : Nat → Nat} {td vl : Nat → Int32} {L pt fl : Nat} {kd : Int32} {fl' : Nat} (h : fl = fl') : (wP D a td vl L pt fl kd) = (wP D a td vl L pt fl' kd) := by rw [h]
theorem wP_kd {D : DT} {a : Nat → Nat} {td vl : Nat → Int32} {L pt fl : Nat} {kd : Int32} {kd' : Int32} (h : kd = kd') : (wP D a td vl L pt fl kd) = (wP D a td vl L pt fl kd') := by rw [h]
end PROWS
theorem putN_le (n : Nat) : putN n ≤ 8 := by
  have h : ∀ k r m, cM k r m ≤ m + k := by
    intro k
    induction k with
    | zero => intro r m; rw [cM]; split <;> omega
    | succ k ih =>
      intro r m
      rw [cM]
      split
      · split
        · have := ih (r / 256) (m + 1); omega
        · omega
      · split <;> omega
  have := h 8 n 0
  unfold putN
  omega
theorem i2c_n : ∀ c, c < 256 → ((nI c).toUInt32 % 65536).toInt32 = nI c := by decide +kernel
theorem nar_c : ∀ c, c < 256 → vp_nar .char (nI c) = nI c := by decide +kernel
theorem nar_cv {x : Int32} (h : ∃ c : Nat, c < 256 ∧ x = nI c) : narrow .char (.int x) = .int x ∧ fits .char (.int x) = true := by
  obtain ⟨c, hc, rfl⟩ := h
  have h : ∀ c, c < 256 → narrow .char (.int (nI c)) = .int (nI c) ∧ fits .char (.int (nI c)) = true := by decide +kernel
  exact h c hc
/-! ===== what the pad's reading does, part by part: whether it goes on, where it stands, how many values, the values ===== -/
abbrev Y3 : Type := Nat × Nat × (Nat → Int32)
def yTake (v : Int32) (y : Y3) : Y3 := (y.1 + 1, if y.2.1 < 4 then y.2.1 + 1 else y.2.1, if y.2.1 < 4 then up y.2.2 y.2.1 v else y.2.2)
def yItself (td : Nat → Int32) (ch : Int32) (y : Y3) : Bool × Y3 := if td y.1 = ch then (true, (y.1 + 1, y.2)) else (false, y)
def yDigit (td : Nat → Int32) (lo hi : Int32) (y : Y3) : Bool × Y3 := if inB (td y.1) lo hi = true then (true, yTake (td y.1 - 48) y) else (false, y)
def yNeed (td : Nat → Int32) (y : Y3) : Bool × Y3 := if td y.1 = 114 then (true, yTake 1 y) else if td y.1 = 119 then (true, yTake 2 y) else (false, y)
def yNum (td : Nat → Int32) (L : Nat) (y : Y3) : Bool × Y3 :=
  if dgB (td y.1) = true then
    (if (decide ((0 : Int) < (td y.1 - 48).toInt) && (decide (y.1 + 1 < L) && dgB (td (y.1 + 1)))) = true then (true, yTake ((td y.1 - 48) * 10 + (td (y.1 + 1) - 48)) (y.1 + 1, y.2)) else (true, yTake (td y.1 - 48) y))
  else (false, y)
def yOr (td : Nat → Int32) (r : Y3 → Bool × Y3) (y : Y3) : Bool × Y3 := if td y.1 = 45 then (true, yTake (-6) y) else r y
def yPart (td : Nat → Int32) (L : Nat) (ch : Int32) (y : Y3) : Bool × Y3 :=
  if ch = 71 then yOr td (yDigit td 48 53) y else if ch = 78 then yOr td (yNum td L) y else if ch = 97 then yNeed td y else if ch = 100 then yDigit td 48 57 y
  else if ch = 102 then yDigit td 49 55 y else if ch = 103 then yDigit td 48 53 y else if ch = 110 then yNum td L y else yItself td ch y

