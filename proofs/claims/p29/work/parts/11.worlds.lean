def up {α : Type} (f : Nat → α) (k : Nat) (v : α) : Nat → α := fun j => bif Nat.beq j k then v else f j
theorem up_s {α : Type} (f : Nat → α) (k : Nat) (v : α) : up f k v k = v := by simp [up]
theorem up_n {α : Type} (f : Nat → α) {k j : Nat} (v : α) (h : j ≠ k) : up f k v j = f j := by
  unfold up
  cases hb : Nat.beq j k with
  | false => rfl
  | true => exact absurd (Nat.eq_of_beq_eq_true hb) h
theorem up_e {α : Type} (f : Nat → α) (k : Nat) (v : α) (j : Nat) : up f k v j = if j = k then v else f j := by
  by_cases h : j = k
  · subst h; rw [up_s, if_pos rfl]
  · rw [up_n f v h, if_neg h]
theorem upd_up (f : Nat → Int32) (k : Nat) (v : Int32) : upd f k v = up f k v := by
  funext j
  rw [up_e]
  by_cases h : j = k
  · subst h; simp [upd]
  · simp [upd, h]
/-- a row read off a longer one: n places, from o on, st apart; nothing beyond -/
def cl (n o st : Nat) (f : Nat → Int32) : Nat → Int32 := fun k => if k < n then f (o + st * k) else 0
theorem cl_in {n o st k : Nat} {f : Nat → Int32} (h : k < n) : cl n o st f k = f (o + st * k) := if_pos h
theorem cl_ne {n o st m : Nat} {f : Nat → Int32} {v : Int32} (h : ∀ k, k < n → o + st * k ≠ m) : cl n o st (up f m v) = cl n o st f := by
  funext k
  by_cases hk : k < n
  · rw [cl_in hk, cl_in hk, up_n f v (h k hk)]
  · simp [cl, hk]
theorem cl_upd {n o st i : Nat} {f : Nat → Int32} {v : Int32} (hs : 0 < st) (hi : i < n) : upd (cl n o st f) i v = cl n o st (up f (o + st * i) v) := by
  funext k
  rw [upd_up, up_e]
  by_cases hk : k = i
  · subst hk; rw [if_pos rfl, cl_in hi, up_s]
  · rw [if_neg hk]
    by_cases h : k < n
    · rw [cl_in h, cl_in h, up_n f v (fun z => hk (Nat.eq_of_mul_eq_mul_left hs (by omega)))]
    · simp [cl, h]
theorem cl_ext {n o st : Nat} {f g : Nat → Int32} (h : ∀ k, k < n → f (o + st * k) = g (o + st * k)) : cl n o st f = cl n o st g := by
  funext k
  by_cases hk : k < n
  · rw [cl_in hk, cl_in hk, h k hk]
  · simp [cl, hk]
theorem ix_of {i : Int32} {k n : Nat} (hi : i = nI k) (hk : k < n) (hn : n < 2 ^ 31) : vp_in i n ∧ i.toNatClampNeg = k := by
  subst hi
  exact ⟨vp_in_nI hk hn, nI_clamp (by omega)⟩
def b2i (b : Bool) : Int32 := if b then 1 else 0
theorem b2i_nar (b : Bool) : narrow .boolean (.int (b2i b)) = .int (b2i b) := by cases b <;> rfl
theorem b2i_vnar (b : Bool) : vp_nar .boolean (b2i b) = b2i b := by cases b <;> rfl
theorem b2i_fit (b : Bool) : fits .boolean (.int (b2i b)) = true := by cases b <;> rfl
theorem b2i_0 {b : Bool} (h : b2i b = 0) : b = false := by cases b with | false => rfl | true => exact absurd h (by decide)
theorem b2i_n0 {b : Bool} (h : ¬ b2i b = 0) : b = true := by cases b with | true => rfl | false => exact absurd rfl h
theorem b2i_1 {b : Bool} (h : b2i b = 1) : b = true := by cases b with | true => rfl | false => exact absurd h (by decide)
theorem b2i_n1 {b : Bool} (h : ¬ b2i b = 1) : b = false := by cases b with | false => rfl | true => exact absurd rfl h
def mskN (P : Nat → Bool) : Nat → Nat
  | 0 => 0
  | n + 1 => if P n = true then mskN P n ||| 2 ^ n else mskN P n
theorem mskN_lt (P : Nat → Bool) : ∀ n, mskN P n < 2 ^ n
  | 0 => Nat.zero_lt_one
  | n + 1 => by
    have h := mskN_lt P n
    have h1 : 2 ^ n < 2 ^ (n + 1) := Nat.pow_lt_pow_right (by decide) (by omega)
    rw [mskN]
    split
    · exact Nat.or_lt_two_pow (by omega) h1
    · omega
theorem mskN_bit (P : Nat → Bool) : ∀ (n k : Nat), (mskN P n).testBit k = (decide (k < n) && P k)
  | 0, k => by simp [mskN]
  | n + 1, k => by
    rw [mskN]
    by_cases hk : k = n
    · subst hk
      have h0 := mskN_bit P k k
      split
      · rename_i hp
        rw [Nat.testBit_or, Nat.testBit_two_pow_self]
        simp [hp]
      · rename_i hp
        rw [h0]
        simp at hp
        simp [hp]
    · have e : decide (k < n + 1) = decide (k < n) := decide_eq_decide.mpr (by omega)
      split
      · rw [Nat.testBit_or, mskN_bit P n k, Nat.testBit_two_pow_of_ne (fun z => hk z.symm), e, Bool.or_false]
      · rw [mskN_bit P n k, e]
theorem mskN_P {P P' : Nat → Bool} : ∀ n, (∀ k, k < n → P k = P' k) → mskN P n = mskN P' n
  | 0, _ => rfl
  | n + 1, h => by rw [mskN, mskN, h n (by omega), mskN_P n (fun k hk => h k (by omega))]
/-- the stamps' flags as a set: the bits of those whose flag is not 0 -/
def mkB (f : Nat → Int32) (j : Nat) : Nat := mskN (fun s => !decide (f (127 + j + 7 * s) = 0)) 40
theorem mkB_c {f g : Nat → Int32} {j : Nat} (h : ∀ s, s < 40 → g (127 + j + 7 * s) = f (127 + j + 7 * s)) : mkB g j = mkB f j :=
  mskN_P 40 (fun s hs => congrArg (fun x : Int32 => !decide (x = 0)) (h s hs))
theorem mkB_ne {f : Nat → Int32} {j m : Nat} {v : Int32} (h : ∀ s, s < 40 → 127 + j + 7 * s ≠ m) : mkB (up f m v) j = mkB f j := mkB_c (fun s hs => up_n f v (h s hs))
theorem mkB_lt (f : Nat → Int32) (j : Nat) : mkB f j < 2 ^ 64 := Nat.lt_of_lt_of_le (mskN_lt _ 40) (Nat.pow_le_pow_right (by decide) (by decide))
theorem mkB_bit {f : Nat → Int32} {j k : Nat} (hk : k < 40) : (mkB f j).testBit k = !decide (f (127 + j + 7 * k) = 0) := by
  unfold mkB
  rw [mskN_bit, decide_eq_true hk, Bool.true_and]
theorem mkB_b {f : Nat → Int32} {j k : Nat} {b : Bool} (hk : k < 40) (e : f (127 + j + 7 * k) = b2i b) : (mkB f j).testBit k = b := by
  rw [mkB_bit hk, e]
  cases b <;> rfl
theorem mkB_1 {f : Nat → Int32} {j k : Nat} (hk : k < 40) : mkB f j ||| 2 ^ k = mkB (up f (127 + j + 7 * k) 1) j := by
  apply Nat.eq_of_testBit_eq
  intro i
  unfold mkB
  rw [Nat.testBit_or, mskN_bit, mskN_bit]
  by_cases h : i = k
  · subst h
    rw [Nat.testBit_two_pow_self, up_s, decide_eq_true hk, Bool.or_true]
    rfl
  · rw [Nat.testBit_two_pow_of_ne (fun z => h z.symm), up_n _ _ (by omega), Bool.or_false]

/-! ===== the house: addresses a, the flat row f (as the reference's 'at'; the notes' rows apart: na), the walk's reason and steps w ===== -/
def wH (D : DT) (a : Nat → Nat) (f : Nat → Int32) (na : Nat → Nat → Int32) : va_W := [
  (a 0, .inr (2, [.ref (a 1), .ref (a 2), .ref (a 3), .ref (a 4), .ref (a 5), .ref (a 13), .int (f 77), .int (f 78), .int (f 79), .int (f 80)])),
  (a 1, .inl (D.2.1, 12, .inl (cl 12 4 1 f))), (a 2, .inl (D.2.1, 60, .inl (cl 60 16 1 f))), (a 3, .inl (D.2.1, 4, .inl (cl 4 0 1 f))), (a 4, .inl (D.2.1, 7, .inl (cl 7 83 1 f))),
  (a 5, .inr (4, [.ref (a 6), .ref (a 7), .ref (a 8), .ref (a 9), .ref (a 10), .long (lN (mkB f 5)), .long (lN (mkB f 6)), .int (f 76)])),
  (a 6, .inl (D.2.1, 40, .inl (cl 40 127 7 f))), (a 7, .inl (D.2.1, 40, .inl (cl 40 128 7 f))), (a 8, .inl (D.2.1, 40, .inl (cl 40 129 7 f))), (a 9, .inl (D.2.1, 40, .inl (cl 40 130 7 f))), (a 10, .inl (D.2.1, 40, .inl (cl 40 131 7 f))),
  (a 13, .inr (0, [.ref (a 14), .ref (a 15), .ref (a 16), .ref (a 17), .int (f 90), .int (f 81), .int (f 82)])),
  (a 14, .inl (D.2.1, 8, .inl (cl 8 0 1 (na 0)))), (a 15, .inl (D.2.1, 8, .inl (cl 8 0 1 (na 1)))), (a 16, .inl (D.2.1, 8, .inl (cl 8 0 1 (na 2)))), (a 17, .inl (D.2.1, 8, .inl (cl 8 0 1 (na 3))))]
def wHW (D : DT) (a : Nat → Nat) (f : Nat → Int32) (na : Nat → Nat → Int32) (w : Nat → Int32) : va_W := wH D a f na ++ [(a 18, .inr (5, [.int (w 0), .int (w 1)]))]
section HROWS
variable {p : Program} {l : Launch} {e : Env} {R : Room} {s : State} {m : MethodId} {args : Array Value} {below : List Frame} {meth : Method} {c : Code} {D : DT} {A : Nat → Prop} {nL : Nat} {ro : Bool} {cs sl : Nat} {Q : State → Prop} {cc : ByteArray} {own : String} {Ts : List Cond} {lv : List (Nat × Value)} {st : List Value} {pc pc' : Nat}
variable {a : Nat → Nat} {f : Nat → Int32} {na : Nat → Nat → Int32} {w : Nat → Int32}
theorem gH_get_House_owners (X : GX p l e R s m args below meth c D A nL cc own Ts) {index : Nat} (hd : decode cc pc = .ok (.getfield index, 3)) (hin : ∀ w ∈ wsX20, w ∈ Ts) (hlink : Cond.fieldLink own index (TX2 0).1 (TX2 0).2.1 (TX2 0).2.2.1 ∈ Ts) (hp : pc + 3 = pc') (kk : GG p l e R s m args below meth c D A nL ro cs sl Q (wHW D a f na w) pc' lv (.ref (a 1) :: st)) : GG p l e R s m args below meth c D A nL ro cs sl Q (wHW D a f na w) pc lv (.ref (a 0) :: st) := g_get X hd hin rfl 0 rfl 0 (by decide) hlink rfl hp kk
theorem gH_get_House_doors (X : GX p l e R s m args below meth c D A nL cc own Ts) {index : Nat} (hd : decode cc pc = .ok (.getfield index, 3)) (hin : ∀ w ∈ wsX20, w ∈ Ts) (hlink : Cond.fieldLink own index (TX2 1).1 (TX2 1).2.1 (TX2 1).2.2.1 ∈ Ts) (hp : pc + 3 = pc') (kk : GG p l e R s m args below meth c D A nL ro cs sl Q (wHW D a f na w) pc' lv (.ref (a 2) :: st)) : GG p l e R s m args below meth c D A nL ro cs sl Q (wHW D a f na w) pc lv (.ref (a 0) :: st) := g_get X hd hin rfl 0 rfl 1 (by decide) hlink rfl hp kk
theorem gH_get_House_settings (X : GX p l e R s m args below meth c D A nL cc own Ts) {index : Nat} (hd : decode cc pc = .ok (.getfield index, 3)) (hin : ∀ w ∈ wsX20, w ∈ Ts) (hlink : Cond.fieldLink own index (TX2 2).1 (TX2 2).2.1 (TX2 2).2.2.1 ∈ Ts) (hp : pc + 3 = pc') (kk : GG p l e R s m args below meth c D A nL ro cs sl Q (wHW D a f na w) pc' lv (.ref (a 3) :: st)) : GG p l e R s m args below meth c D A nL ro cs sl Q (wHW D a f na w) pc lv (.ref (a 0) :: st) := g_get X hd hin rfl 0 rfl 2 (by decide) hlink rfl hp kk
theorem gH_get_House_endings (X : GX p l e R s m args below meth c D A nL cc own Ts) {index : Nat} (hd : decode cc pc = .ok (.getfield index, 3)) (hin : ∀ w ∈ wsX20, w ∈ Ts) (hlink : Cond.fieldLink own index (TX2 3).1 (TX2 3).2.1 (TX2 3).2.2.1 ∈ Ts) (hp : pc + 3 = pc') (kk : GG p l e R s m args below meth c D A nL ro cs sl Q (wHW D a f na w) pc' lv (.ref (a 4) :: st)) : GG p l e R s m args below meth c D A nL ro cs sl Q (wHW D a f na w) pc lv (.ref (a 0) :: st) := g_get X hd hin rfl 0 rfl 3 (by decide) hlink rfl hp kk
theorem gH_get_House_stamps (X : GX p l e R s m args below meth c D A nL cc own Ts) {index : Nat} (hd : decode cc pc = .ok (.getfield index, 3)) (hin : ∀ w ∈ wsX20, w ∈ Ts) (hlink : Cond.fieldLink own index (TX2 4).1 (TX2 4).2.1 (TX2 4).2.2.1 ∈ Ts) (hp : pc + 3 = pc') (kk : GG p l e R s m args below meth c D A nL ro cs sl Q (wHW D a f na w) pc' lv (.ref (a 5) :: st)) : GG p l e R s m args below meth c D A nL ro cs sl Q (wHW D a f na w) pc lv (.ref (a 0) :: st) := g_get X hd hin rfl 0 rfl 4 (by decide) hlink rfl hp kk
theorem gH_get_House_board (X : GX p l e R s m args below meth c D A nL cc own Ts) {index : Nat} (hd : decode cc pc = .ok (.getfield index, 3)) (hin : ∀ w ∈ wsX20, w ∈ Ts) (hlink : Cond.fieldLink own index (TX2 5).1 (TX2 5).2.1 (TX2 5).2.2.1 ∈ Ts) (hp : pc + 3 = pc') (kk : GG p l e R s m args below meth c D A nL ro cs sl Q (wHW D a f na w) pc' lv (.ref (a 13) :: st)) : GG p l e R s m args below meth c D A nL ro cs sl Q (wHW D a f na w) pc lv (.ref (a 0) :: st) := g_get X hd hin rfl 0 rfl 5 (by decide) hlink rfl hp kk
theorem gH_get_House_inside (X : GX p l e R s m args below meth c D A nL cc own Ts) {index : Nat} (hd : decode cc pc = .ok (.getfield index, 3)) (hin : ∀ w ∈ wsX20, w ∈ Ts) (hlink : Cond.fieldLink own index (TX2 6).1 (TX2 6).2.1 (TX2 6).2.2.1 ∈ Ts) (hp : pc + 3 = pc') (kk : GG p l e R s m args below meth c D A nL ro cs sl Q (wHW D a f na w) pc' lv (.int (f 77) :: st)) : GG p l e R s m args below meth c D A nL ro cs sl Q (wHW D a f na w) pc lv (.ref (a 0) :: st) := g_get X hd hin rfl 0 rfl 6 (by decide) hlink rfl hp kk
theorem gH_put_House_inside (X : GX p l e R s m args below meth c D A nL cc own Ts) {index : Nat} {v : Int32} (hro : ro = false) (hd : decode cc pc = .ok (.putfield index, 3)) (hin : ∀ w ∈ wsX20, w ∈ Ts) (hlink : Cond.fieldLink own index (TX2 6).1 (TX2 6).2.1 (TX2 6).2.2.1 ∈ Ts) (hp : pc + 3 = pc') (kk : GG p l e R s m args below meth c D A nL ro cs sl Q (wHW D a (up f 77 v) na w) pc' lv st) : GG p l e R s m args below meth c D A nL ro cs sl Q (wHW D a f na w) pc lv (.int v :: .ref (a 0) :: st) := by
  have e1 : cl 12 4 1 (up f 77 v) = cl 12 4 1 f := cl_ne (by intro k hk; omega)
  have e2 : cl 60 16 1 (up f 77 v) = cl 60 16 1 f := cl_ne (by intro k hk; omega)
  have e3 : cl 4 0 1 (up f 77 v) = cl 4 0 1 f := cl_ne (by intro k hk; omega)
  have e4 : cl 7 83 1 (up f 77 v) = cl 7 83 1 f := cl_ne (by intro k hk; omega)
  have e6 : cl 40 127 7 (up f 77 v) = cl 40 127 7 f := cl_ne (by intro k hk; omega)
  have e7 : cl 40 128 7 (up f 77 v) = cl 40 128 7 f := cl_ne (by intro k hk; omega)
  have e8 : cl 40 129 7 (up f 77 v) = cl 40 129 7 f := cl_ne (by intro k hk; omega)
  have e9 : cl 40 130 7 (up f 77 v) = cl 40 130 7 f := cl_ne (by intro k hk; omega)
  have e10 : cl 40 131 7 (up f 77 v) = cl 40 131 7 f := cl_ne (by intro k hk; omega)
  have b5 : mkB (up f 77 v) 5 = mkB f 5 := mkB_ne (by intro s hs; omega)
  have b6 : mkB (up f 77 v) 6 = mkB f 6 := mkB_ne (by intro s hs; omega)
  exact g_put X (wHW D a (up f 77 v) na w) hro hd hin tyX2_ok nmX2 rfl 0 rfl 6 (by decide) hlink rfl (ty := .int) (by decide +kernel) rfl rfl (Nat.le_of_ble_eq_true rfl) (by simp only [wHW, wH, e1, e2, e3, e4, e6, e7, e8, e9, e10, b5, b6]; rfl) hp kk
theorem gH_get_House_visits (X : GX p l e R s m args below meth c D A nL cc own Ts) {index : Nat} (hd : decode cc pc = .ok (.getfield index, 3)) (hin : ∀ w ∈ wsX20, w ∈ Ts) (hlink : Cond.fieldLink own index (TX2 7).1 (TX2 7).2.1 (TX2 7).2.2.1 ∈ Ts) (hp : pc + 3 = pc') (kk : GG p l e R s m args below meth c D A nL ro cs sl Q (wHW D a f na w) pc' lv (.int (f 78) :: st)) : GG p l e R s m args below meth c D A nL ro cs sl Q (wHW D a f na w) pc lv (.ref (a 0) :: st) := g_get X hd hin rfl 0 rfl 7 (by decide) hlink rfl hp kk
theorem gH_put_House_visits (X : GX p l e R s m args below meth c D A nL cc own Ts) {index : Nat} {v : Int32} (hro : ro = false) (hd : decode cc pc = .ok (.putfield index, 3)) (hin : ∀ w ∈ wsX20, w ∈ Ts) (hlink : Cond.fieldLink own index (TX2 7).1 (TX2 7).2.1 (TX2 7).2.2.1 ∈ Ts) (hp : pc + 3 = pc') (kk : GG p l e R s m args below meth c D A nL ro cs sl Q (wHW D a (up f 78 v) na w) pc' lv st) : GG p l e R s m args below meth c D A nL ro cs sl Q (wHW D a f na w) pc lv (.int v :: .ref (a 0) :: st) := by
  have e1 : cl 12 4 1 (up f 78 v) = cl 12 4 1 f := cl_ne (by intro k hk; omega)
  have e2 : cl 60 16 1 (up f 78 v) = cl 60 16 1 f := cl_ne (by intro k hk; omega)
  have e3 : cl 4 0 1 (up f 78 v) = cl 4 0 1 f := cl_ne (by intro k hk; omega)
  have e4 : cl 7 83 1 (up f 78 v) = cl 7 83 1 f := cl_ne (by intro k hk; omega)
  have e6 : cl 40 127 7 (up f 78 v) = cl 40 127 7 f := cl_ne (by intro k hk; omega)
  have e7 : cl 40 128 7 (up f 78 v) = cl 40 128 7 f := cl_ne (by intro k hk; omega)
  have e8 : cl 40 129 7 (up f 78 v) = cl 40 129 7 f := cl_ne (by intro k hk; omega)
  have e9 : cl 40 130 7 (up f 78 v) = cl 40 130 7 f := cl_ne (by intro k hk; omega)
  have e10 : cl 40 131 7 (up f 78 v) = cl 40 131 7 f := cl_ne (by intro k hk; omega)
  have b5 : mkB (up f 78 v) 5 = mkB f 5 := mkB_ne (by intro s hs; omega)
  have b6 : mkB (up f 78 v) 6 = mkB f 6 := mkB_ne (by intro s hs; omega)
  exact g_put X (wHW D a (up f 78 v) na w) hro hd hin tyX2_ok nmX2 rfl 0 rfl 7 (by decide) hlink rfl (ty := .int) (by decide +kernel) rfl rfl (Nat.le_of_ble_eq_true rfl) (by simp only [wHW, wH, e1, e2, e3, e4, e6, e7, e8, e9, e10, b5, b6]; rfl) hp kk
theorem gH_get_House_helped (X : GX p l e R s m args below meth c D A nL cc own Ts) {index : Nat} (hd : decode cc pc = .ok (.getfield index, 3)) (hin : ∀ w ∈ wsX20, w ∈ Ts) (hlink : Cond.fieldLink own index (TX2 8).1 (TX2 8).2.1 (TX2 8).2.2.1 ∈ Ts) (hp : pc + 3 = pc') (kk : GG p l e R s m args below meth c D A nL ro cs sl Q (wHW D a f na w) pc' lv (.int (f 79) :: st)) : GG p l e R s m args below meth c D A nL ro cs sl Q (wHW D a f na w) pc lv (.ref (a 0) :: st) := g_get X hd hin rfl 0 rfl 8 (by decide) hlink rfl hp kk
theorem gH_put_House_helped (X : GX p l e R s m args below meth c D A nL cc own Ts) {index : Nat} {v : Int32} (hro : ro = false) (hd : decode cc pc = .ok (.putfield index, 3)) (hin : ∀ w ∈ wsX20, w ∈ Ts) (hlink : Cond.fieldLink own index (TX2 8).1 (TX2 8).2.1 (TX2 8).2.2.1 ∈ Ts) (hp : pc + 3 = pc') (kk : GG p l e R s m args below meth c D A nL ro cs sl Q (wHW D a (up f 79 v) na w) pc' lv st) : GG p l e R s m args below meth c D A nL ro cs sl Q (wHW D a f na w) pc lv (.int v :: .ref (a 0) :: st) := by
  have e1 : cl 12 4 1 (up f 79 v) = cl 12 4 1 f := cl_ne (by intro k hk; omega)
  have e2 : cl 60 16 1 (up f 79 v) = cl 60 16 1 f := cl_ne (by intro k hk; omega)
  have e3 : cl 4 0 1 (up f 79 v) = cl 4 0 1 f := cl_ne (by intro k hk; omega)
  have e4 : cl 7 83 1 (up f 79 v) = cl 7 83 1 f := cl_ne (by intro k hk; omega)
  have e6 : cl 40 127 7 (up f 79 v) = cl 40 127 7 f := cl_ne (by intro k hk; omega)
  have e7 : cl 40 128 7 (up f 79 v) = cl 40 128 7 f := cl_ne (by intro k hk; omega)
  have e8 : cl 40 129 7 (up f 79 v) = cl 40 129 7 f := cl_ne (by intro k hk; omega)
  have e9 : cl 40 130 7 (up f 79 v) = cl 40 130 7 f := cl_ne (by intro k hk; omega)
  have e10 : cl 40 131 7 (up f 79 v) = cl 40 131 7 f := cl_ne (by intro k hk; omega)
  have b5 : mkB (up f 79 v) 5 = mkB f 5 := mkB_ne (by intro s hs; omega)
  have b6 : mkB (up f 79 v) 6 = mkB f 6 := mkB_ne (by intro s hs; omega)
  exact g_put X (wHW D a (up f 79 v) na w) hro hd hin tyX2_ok nmX2 rfl 0 rfl 8 (by decide) hlink rfl (ty := .int) (by decide +kernel) rfl rfl (Nat.le_of_ble_eq_true rfl) (by simp only [wHW, wH, e1, e2, e3, e4, e6, e7, e8, e9, e10, b5, b6]; rfl) hp kk
theorem gH_get_House_steps (X : GX p l e R s m args below meth c D A nL cc own Ts) {index : Nat} (hd : decode cc pc = .ok (.getfield index, 3)) (hin : ∀ w ∈ wsX20, w ∈ Ts) (hlink : Cond.fieldLink own index (TX2 9).1 (TX2 9).2.1 (TX2 9).2.2.1 ∈ Ts) (hp : pc + 3 = pc') (kk : GG p l e R s m args below meth c D A nL ro cs sl Q (wHW D a f na w) pc' lv (.int (f 80) :: st)) : GG p l e R s m args below meth c D A nL ro cs sl Q (wHW D a f na w) pc lv (.ref (a 0) :: st) := g_get X hd hin rfl 0 rfl 9 (by decide) hlink rfl hp kk
theorem gH_put_House_steps (X : GX p l e R s m args below meth c D A nL cc own Ts) {index : Nat} {v : Int32} (hro : ro = false) (hd : decode cc pc = .ok (.putfield index, 3)) (hin : ∀ w ∈ wsX20, w ∈ Ts) (hlink : Cond.fieldLink own index (TX2 9).1 (TX2 9).2.1 (TX2 9).2.2.1 ∈ Ts) (hp : pc + 3 = pc') (kk : GG p l e R s m args below meth c D A nL ro cs sl Q (wHW D a (up f 80 v) na w) pc' lv st) : GG p l e R s m args below meth c D A nL ro cs sl Q (wHW D a f na w) pc lv (.int v :: .ref (a 0) :: st) := by
  have e1 : cl 12 4 1 (up f 80 v) = cl 12 4 1 f := cl_ne (by intro k hk; omega)
  have e2 : cl 60 16 1 (up f 80 v) = cl 60 16 1 f := cl_ne (by intro k hk; omega)
  have e3 : cl 4 0 1 (up f 80 v) = cl 4 0 1 f := cl_ne (by intro k hk; omega)
  have e4 : cl 7 83 1 (up f 80 v) = cl 7 83 1 f := cl_ne (by intro k hk; omega)
  have e6 : cl 40 127 7 (up f 80 v) = cl 40 127 7 f := cl_ne (by intro k hk; omega)
  have e7 : cl 40 128 7 (up f 80 v) = cl 40 128 7 f := cl_ne (by intro k hk; omega)
  have e8 : cl 40 129 7 (up f 80 v) = cl 40 129 7 f := cl_ne (by intro k hk; omega)
  have e9 : cl 40 130 7 (up f 80 v) = cl 40 130 7 f := cl_ne (by intro k hk; omega)
  have e10 : cl 40 131 7 (up f 80 v) = cl 40 131 7 f := cl_ne (by intro k hk; omega)
  have b5 : mkB (up f 80 v) 5 = mkB f 5 := mkB_ne (by intro s hs; omega)
  have b6 : mkB (up f 80 v) 6 = mkB f 6 := mkB_ne (by intro s hs; omega)
  exact g_put X (wHW D a (up f 80 v) na w) hro hd hin tyX2_ok nmX2 rfl 0 rfl 9 (by decide) hlink rfl (ty := .int) (by decide +kernel) rfl rfl (Nat.le_of_ble_eq_true rfl) (by simp only [wHW, wH, e1, e2, e3, e4, e6, e7, e8, e9, e10, b5, b6]; rfl) hp kk
theorem gH_get_Stamps_page (X : GX p l e R s m args below meth c D A nL cc own Ts) {index : Nat} (hd : decode cc pc = .ok (.getfield index, 3)) (hin : ∀ w ∈ wsX40, w ∈ Ts) (hlink : Cond.fieldLink own index (TX4 0).1 (TX4 0).2.1 (TX4 0).2.2.1 ∈ Ts) (hp : pc + 3 = pc') (kk : GG p l e R s m args below meth c D A nL ro cs sl Q (wHW D a f na w) pc' lv (.ref (a 6) :: st)) : GG p l e R s m args below meth c D A nL ro cs sl Q (wHW D a f na w) pc lv (.ref (a 5) :: st) := g_get X hd hin rfl 5 rfl 0 (by decide) hlink rfl hp kk
theorem gH_get_Stamps_giver (X : GX p l e R s m args below meth c D A nL cc own Ts) {index : Nat} (hd : decode cc pc = .ok (.getfield index, 3)) (hin : ∀ w ∈ wsX40, w ∈ Ts) (hlink : Cond.fieldLink own index (TX4 1).1 (TX4 1).2.1 (TX4 1).2.2.1 ∈ Ts) (hp : pc + 3 = pc') (kk : GG p l e R s m args below meth c D A nL ro cs sl Q (wHW D a f na w) pc' lv (.ref (a 7) :: st)) : GG p l e R s m args below meth c D A nL ro cs sl Q (wHW D a f na w) pc lv (.ref (a 5) :: st) := g_get X hd hin rfl 5 rfl 1 (by decide) hlink rfl hp kk
theorem gH_get_Stamps_holder (X : GX p l e R s m args below meth c D A nL cc own Ts) {index : Nat} (hd : decode cc pc = .ok (.getfield index, 3)) (hin : ∀ w ∈ wsX40, w ∈ Ts) (hlink : Cond.fieldLink own index (TX4 2).1 (TX4 2).2.1 (TX4 2).2.2.1 ∈ Ts) (hp : pc + 3 = pc') (kk : GG p l e R s m args below meth c D A nL ro cs sl Q (wHW D a f na w) pc' lv (.ref (a 8) :: st)) : GG p l e R s m args below meth c D A nL ro cs sl Q (wHW D a f na w) pc lv (.ref (a 5) :: st) := g_get X hd hin rfl 5 rfl 2 (by decide) hlink rfl hp kk
theorem gH_get_Stamps_rights (X : GX p l e R s m args below meth c D A nL cc own Ts) {index : Nat} (hd : decode cc pc = .ok (.getfield index, 3)) (hin : ∀ w ∈ wsX40, w ∈ Ts) (hlink : Cond.fieldLink own index (TX4 3).1 (TX4 3).2.1 (TX4 3).2.2.1 ∈ Ts) (hp : pc + 3 = pc') (kk : GG p l e R s m args below meth c D A nL ro cs sl Q (wHW D a f na w) pc' lv (.ref (a 9) :: st)) : GG p l e R s m args below meth c D A nL ro cs sl Q (wHW D a f na w) pc lv (.ref (a 5) :: st) := g_get X hd hin rfl 5 rfl 3 (by decide) hlink rfl hp kk
theorem gH_get_Stamps_root (X : GX p l e R s m args below meth c D A nL cc own Ts) {index : Nat} (hd : decode cc pc = .ok (.getfield index, 3)) (hin : ∀ w ∈ wsX40, w ∈ Ts) (hlink : Cond.fieldLink own index (TX4 4).1 (TX4 4).2.1 (TX4 4).2.2.1 ∈ Ts) (hp : pc + 3 = pc') (kk : GG p l e R s m args below meth c D A nL ro cs sl Q (wHW D a f na w) pc' lv (.ref (a 10) :: st)) : GG p l e R s m args below meth c D A nL ro cs sl Q (wHW D a f na w) pc lv (.ref (a 5) :: st) := g_get X hd hin rfl 5 rfl 4 (by decide) hlink rfl hp kk
theorem gH_get_Stamps_forged (X : GX p l e R s m args below meth c D A nL cc own Ts) {index : Nat} (hd : decode cc pc = .ok (.getfield index, 3)) (hin : ∀ w ∈ wsX40, w ∈ Ts) (hlink : Cond.fieldLink own index (TX4 5).1 (TX4 5).2.1 (TX4 5).2.2.1 ∈ Ts) (hp : pc + 3 = pc') (kk : GG p l e R s m args below meth c D A nL ro cs sl Q (wHW D a f na w) pc' lv (.long (lN (mkB f 5)) :: st)) : GG p l e R s m args below meth c D A nL ro cs sl Q (wHW D a f na w) pc lv (.ref (a 5) :: st) := g_get X hd hin rfl 5 rfl 5 (by decide) hlink rfl hp kk
theorem gH_put_Stamps_forged (X : GX p l e R s m args below meth c D A nL cc own Ts) {index k : Nat} {v : Int64} (hro : ro = false) (hd : decode cc pc = .ok (.putfield index, 3)) (hin : ∀ w ∈ wsX40, w ∈ Ts) (hlink : Cond.fieldLink own index (TX4 5).1 (TX4 5).2.1 (TX4 5).2.2.1 ∈ Ts) (hv : v = lN (mkB f 5 ||| 2 ^ k)) (hk : k < 40) (hp : pc + 3 = pc') (kk : GG p l e R s m args below meth c D A nL ro cs sl Q (wHW D a (up f (127 + 5 + 7 * k) 1) na w) pc' lv st) : GG p l e R s m args below meth c D A nL ro cs sl Q (wHW D a f na w) pc lv (.long v :: .ref (a 5) :: st) := by
  have e1 : cl 12 4 1 (up f (127 + 5 + 7 * k) 1) = cl 12 4 1 f := cl_ne (by intro k hk; omega)
  have e2 : cl 60 16 1 (up f (127 + 5 + 7 * k) 1) = cl 60 16 1 f := cl_ne (by intro k hk; omega)
  have e3 : cl 4 0 1 (up f (127 + 5 + 7 * k) 1) = cl 4 0 1 f := cl_ne (by intro k hk; omega)
  have e4 : cl 7 83 1 (up f (127 + 5 + 7 * k) 1) = cl 7 83 1 f := cl_ne (by intro k hk; omega)
  have e6 : cl 40 127 7 (up f (127 + 5 + 7 * k) 1) = cl 40 127 7 f := cl_ne (by intro k hk; omega)
  have e7 : cl 40 128 7 (up f (127 + 5 + 7 * k) 1) = cl 40 128 7 f := cl_ne (by intro k hk; omega)
  have e8 : cl 40 129 7 (up f (127 + 5 + 7 * k) 1) = cl 40 129 7 f := cl_ne (by intro k hk; omega)
  have e9 : cl 40 130 7 (up f (127 + 5 + 7 * k) 1) = cl 40 130 7 f := cl_ne (by intro k hk; omega)
  have e10 : cl 40 131 7 (up f (127 + 5 + 7 * k) 1) = cl 40 131 7 f := cl_ne (by intro k hk; omega)
  have b6 : mkB (up f (127 + 5 + 7 * k) 1) 6 = mkB f 6 := mkB_ne (by intro s hs; omega)
  have b5 : mkB (up f (127 + 5 + 7 * k) 1) 5 = mkB f 5 ||| 2 ^ k := (mkB_1 hk).symm
  have s77 : up f (127 + 5 + 7 * k) 1 77 = f 77 := up_n f 1 (by omega)
  have s78 : up f (127 + 5 + 7 * k) 1 78 = f 78 := up_n f 1 (by omega)
  have s79 : up f (127 + 5 + 7 * k) 1 79 = f 79 := up_n f 1 (by omega)
  have s80 : up f (127 + 5 + 7 * k) 1 80 = f 80 := up_n f 1 (by omega)
  have s76 : up f (127 + 5 + 7 * k) 1 76 = f 76 := up_n f 1 (by omega)
  have s90 : up f (127 + 5 + 7 * k) 1 90 = f 90 := up_n f 1 (by omega)
  have s81 : up f (127 + 5 + 7 * k) 1 81 = f 81 := up_n f 1 (by omega)
  have s82 : up f (127 + 5 + 7 * k) 1 82 = f 82 := up_n f 1 (by omega)
  subst hv
  exact g_put X (wHW D a (up f (127 + 5 + 7 * k) 1) na w) hro hd hin tyX4_ok nmX4 rfl 5 rfl 5 (by decide) hlink rfl (ty := .long) (by decide +kernel) rfl rfl (Nat.le_of_ble_eq_true rfl) (by simp only [wHW, wH, e1, e2, e3, e4, e6, e7, e8, e9, e10, s77, s78, s79, s80, s76, s90, s81, s82, b5, b6]; rfl) hp kk
theorem gH_get_Stamps_taken (X : GX p l e R s m args below meth c D A nL cc own Ts) {index : Nat} (hd : decode cc pc = .ok (.getfield index, 3)) (hin : ∀ w ∈ wsX40, w ∈ Ts) (hlink : Cond.fieldLink own index (TX4 6).1 (TX4 6).2.1 (TX4 6).2.2.1 ∈ Ts) (hp : pc + 3 = pc') (kk : GG p l e R s m args below meth c D A nL ro cs sl Q (wHW D a f na w) pc' lv (.long (lN (mkB f 6)) :: st)) : GG p l e R s m args below meth c D A nL ro cs sl Q (wHW D a f na w) pc lv (.ref (a 5) :: st) := g_get X hd hin rfl 5 rfl 6 (by decide) hlink rfl hp kk
theorem gH_put_Stamps_taken (X : GX p l e R s m args below meth c D A nL cc own Ts) {index k : Nat} {v : Int64} (hro : ro = false) (hd : decode cc pc = .ok (.putfield index, 3)) (hin : ∀ w ∈ wsX40, w ∈ Ts) (hlink : Cond.fieldLink own index (TX4 6).1 (TX4 6).2.1 (TX4 6).2.2.1 ∈ Ts) (hv : v = lN (mkB f 6 ||| 2 ^ k)) (hk : k < 40) (hp : pc + 3 = pc') (kk : GG p l e R s m args below meth c D A nL ro cs sl Q (wHW D a (up f (127 + 6 + 7 * k) 1) na w) pc' lv st) : GG p l e R s m args below meth c D A nL ro cs sl Q (wHW D a f na w) pc lv (.long v :: .ref (a 5) :: st) := by
  have e1 : cl 12 4 1 (up f (127 + 6 + 7 * k) 1) = cl 12 4 1 f := cl_ne (by intro k hk; omega)
  have e2 : cl 60 16 1 (up f (127 + 6 + 7 * k) 1) = cl 60 16 1 f := cl_ne (by intro k hk; omega)
  have e3 : cl 4 0 1 (up f (127 + 6 + 7 * k) 1) = cl 4 0 1 f := cl_ne (by intro k hk; omega)
  have e4 : cl 7 83 1 (up f (127 + 6 + 7 * k) 1) = cl 7 83 1 f := cl_ne (by intro k hk; omega)
  have e6 : cl 40 127 7 (up f (127 + 6 + 7 * k) 1) = cl 40 127 7 f := cl_ne (by intro k hk; omega)
  have e7 : cl 40 128 7 (up f (127 + 6 + 7 * k) 1) = cl 40 128 7 f := cl_ne (by intro k hk; omega)
  have e8 : cl 40 129 7 (up f (127 + 6 + 7 * k) 1) = cl 40 129 7 f := cl_ne (by intro k hk; omega)
  have e9 : cl 40 130 7 (up f (127 + 6 + 7 * k) 1) = cl 40 130 7 f := cl_ne (by intro k hk; omega)
  have e10 : cl 40 131 7 (up f (127 + 6 + 7 * k) 1) = cl 40 131 7 f := cl_ne (by intro k hk; omega)
  have b5 : mkB (up f (127 + 6 + 7 * k) 1) 5 = mkB f 5 := mkB_ne (by intro s hs; omega)
  have b6 : mkB (up f (127 + 6 + 7 * k) 1) 6 = mkB f 6 ||| 2 ^ k := (mkB_1 hk).symm
  have s77 : up f (127 + 6 + 7 * k) 1 77 = f 77 := up_n f 1 (by omega)
  have s78 : up f (127 + 6 + 7 * k) 1 78 = f 78 := up_n f 1 (by omega)
  have s79 : up f (127 + 6 + 7 * k) 1 79 = f 79 := up_n f 1 (by omega)
  have s80 : up f (127 + 6 + 7 * k) 1 80 = f 80 := up_n f 1 (by omega)
  have s76 : up f (127 + 6 + 7 * k) 1 76 = f 76 := up_n f 1 (by omega)
  have s90 : up f (127 + 6 + 7 * k) 1 90 = f 90 := up_n f 1 (by omega)
  have s81 : up f (127 + 6 + 7 * k) 1 81 = f 81 := up_n f 1 (by omega)
  have s82 : up f (127 + 6 + 7 * k) 1 82 = f 82 := up_n f 1 (by omega)
  subst hv
  exact g_put X (wHW D a (up f (127 + 6 + 7 * k) 1) na w) hro hd hin tyX4_ok nmX4 rfl 5 rfl 6 (by decide) hlink rfl (ty := .long) (by decide +kernel) rfl rfl (Nat.le_of_ble_eq_true rfl) (by simp only [wHW, wH, e1, e2, e3, e4, e6, e7, e8, e9, e10, s77, s78, s79, s80, s76, s90, s81, s82, b5, b6]; rfl) hp kk
theorem gH_get_Stamps_made (X : GX p l e R s m args below meth c D A nL cc own Ts) {index : Nat} (hd : decode cc pc = .ok (.getfield index, 3)) (hin : ∀ w ∈ wsX40, w ∈ Ts) (hlink : Cond.fieldLink own index (TX4 7).1 (TX4 7).2.1 (TX4 7).2.2.1 ∈ Ts) (hp : pc + 3 = pc') (kk : GG p l e R s m args below meth c D A nL ro cs sl Q (wHW D a f na w) pc' lv (.int (f 76) :: st)) : GG p l e R s m args below meth c D A nL ro cs sl Q (wHW D a f na w) pc lv (.ref (a 5) :: st) := g_get X hd hin rfl 5 rfl 7 (by decide) hlink rfl hp kk
theorem gH_put_Stamps_made (X : GX p l e R s m args below meth c D A nL cc own Ts) {index : Nat} {v : Int32} (hro : ro = false) (hd : decode cc pc = .ok (.putfield index, 3)) (hin : ∀ w ∈ wsX40, w ∈ Ts) (hlink : Cond.fieldLink own index (TX4 7).1 (TX4 7).2.1 (TX4 7).2.2.1 ∈ Ts) (hp : pc + 3 = pc') (kk : GG p l e R s m args below meth c D A nL ro cs sl Q (wHW D a (up f 76 v) na w) pc' lv st) : GG p l e R s m args below meth c D A nL ro cs sl Q (wHW D a f na w) pc lv (.int v :: .ref (a 5) :: st) := by
  have e1 : cl 12 4 1 (up f 76 v) = cl 12 4 1 f := cl_ne (by intro k hk; omega)
  have e2 : cl 60 16 1 (up f 76 v) = cl 60 16 1 f := cl_ne (by intro k hk; omega)
  have e3 : cl 4 0 1 (up f 76 v) = cl 4 0 1 f := cl_ne (by intro k hk; omega)
  have e4 : cl 7 83 1 (up f 76 v) = cl 7 83 1 f := cl_ne (by intro k hk; omega)
  have e6 : cl 40 127 7 (up f 76 v) = cl 40 127 7 f := cl_ne (by intro k hk; omega)
  have e7 : cl 40 128 7 (up f 76 v) = cl 40 128 7 f := cl_ne (by intro k hk; omega)
  have e8 : cl 40 129 7 (up f 76 v) = cl 40 129 7 f := cl_ne (by intro k hk; omega)
  have e9 : cl 40 130 7 (up f 76 v) = cl 40 130 7 f := cl_ne (by intro k hk; omega)
  have e10 : cl 40 131 7 (up f 76 v) = cl 40 131 7 f := cl_ne (by intro k hk; omega)
  have b5 : mkB (up f 76 v) 5 = mkB f 5 := mkB_ne (by intro s hs; omega)
  have b6 : mkB (up f 76 v) 6 = mkB f 6 := mkB_ne (by intro s hs; omega)
  exact g_put X (wHW D a (up f 76 v) na w) hro hd hin tyX4_ok nmX4 rfl 5 rfl 7 (by decide) hlink rfl (ty := .int) (by decide +kernel) rfl rfl (Nat.le_of_ble_eq_true rfl) (by simp only [wHW, wH, e1, e2, e3, e4, e6, e7, e8, e9, e10, b5, b6]; rfl) hp kk
theorem gH_get_Board_guest (X : GX p l e R s m args below meth c D A nL cc own Ts) {index : Nat} (hd : decode cc pc = .ok (.getfield index, 3)) (hin : ∀ w ∈ wsX00, w ∈ Ts) (hlink : Cond.fieldLink own index (TX0 0).1 (TX0 0).2.1 (TX0 0).2.2.1 ∈ Ts) (hp : pc + 3 = pc') (kk : GG p l e R s m args below meth c D A nL ro cs sl Q (wHW D a f na w) pc' lv (.ref (a 14) :: st)) : GG p l e R s m args below meth c D A nL ro cs sl Q (wHW D a f na w) pc lv (.ref (a 13) :: st) := g_get X hd hin rfl 11 rfl 0 (by decide) hlink rfl hp kk
theorem gH_get_Board_door (X : GX p l e R s m args below meth c D A nL cc own Ts) {index : Nat} (hd : decode cc pc = .ok (.getfield index, 3)) (hin : ∀ w ∈ wsX00, w ∈ Ts) (hlink : Cond.fieldLink own index (TX0 1).1 (TX0 1).2.1 (TX0 1).2.2.1 ∈ Ts) (hp : pc + 3 = pc') (kk : GG p l e R s m args below meth c D A nL ro cs sl Q (wHW D a f na w) pc' lv (.ref (a 15) :: st)) : GG p l e R s m args below meth c D A nL ro cs sl Q (wHW D a f na w) pc lv (.ref (a 13) :: st) := g_get X hd hin rfl 11 rfl 1 (by decide) hlink rfl hp kk
theorem gH_get_Board_need (X : GX p l e R s m args below meth c D A nL cc own Ts) {index : Nat} (hd : decode cc pc = .ok (.getfield index, 3)) (hin : ∀ w ∈ wsX00, w ∈ Ts) (hlink : Cond.fieldLink own index (TX0 2).1 (TX0 2).2.1 (TX0 2).2.2.1 ∈ Ts) (hp : pc + 3 = pc') (kk : GG p l e R s m args below meth c D A nL ro cs sl Q (wHW D a f na w) pc' lv (.ref (a 16) :: st)) : GG p l e R s m args below meth c D A nL ro cs sl Q (wHW D a f na w) pc lv (.ref (a 13) :: st) := g_get X hd hin rfl 11 rfl 2 (by decide) hlink rfl hp kk
theorem gH_get_Board_page (X : GX p l e R s m args below meth c D A nL cc own Ts) {index : Nat} (hd : decode cc pc = .ok (.getfield index, 3)) (hin : ∀ w ∈ wsX00, w ∈ Ts) (hlink : Cond.fieldLink own index (TX0 3).1 (TX0 3).2.1 (TX0 3).2.2.1 ∈ Ts) (hp : pc + 3 = pc') (kk : GG p l e R s m args below meth c D A nL ro cs sl Q (wHW D a f na w) pc' lv (.ref (a 17) :: st)) : GG p l e R s m args below meth c D A nL ro cs sl Q (wHW D a f na w) pc lv (.ref (a 13) :: st) := g_get X hd hin rfl 11 rfl 3 (by decide) hlink rfl hp kk
theorem gH_get_Board_size (X : GX p l e R s m args below meth c D A nL cc own Ts) {index : Nat} (hd : decode cc pc = .ok (.getfield index, 3)) (hin : ∀ w ∈ wsX00, w ∈ Ts) (hlink : Cond.fieldLink own index (TX0 4).1 (TX0 4).2.1 (TX0 4).2.2.1 ∈ Ts) (hp : pc + 3 = pc') (kk : GG p l e R s m args below meth c D A nL ro cs sl Q (wHW D a f na w) pc' lv (.int (f 90) :: st)) : GG p l e R s m args below meth c D A nL ro cs sl Q (wHW D a f na w) pc lv (.ref (a 13) :: st) := g_get X hd hin rfl 11 rfl 4 (by decide) hlink rfl hp kk
theorem gH_put_Board_size (X : GX p l e R s m args below meth c D A nL cc own Ts) {index : Nat} {v : Int32} (hro : ro = false) (hd : decode cc pc = .ok (.putfield index, 3)) (hin : ∀ w ∈ wsX00, w ∈ Ts) (hlink : Cond.fieldLink own index (TX0 4).1 (TX0 4).2.1 (TX0 4).2.2.1 ∈ Ts) (hp : pc + 3 = pc') (kk : GG p l e R s m args below meth c D A nL ro cs sl Q (wHW D a (up f 90 v) na w) pc' lv st) : GG p l e R s m args below meth c D A nL ro cs sl Q (wHW D a f na w) pc lv (.int v :: .ref (a 13) :: st) := by
  have e1 : cl 12 4 1 (up f 90 v) = cl 12 4 1 f := cl_ne (by intro k hk; omega)
  have e2 : cl 60 16 1 (up f 90 v) = cl 60 16 1 f := cl_ne (by intro k hk; omega)
  have e3 : cl 4 0 1 (up f 90 v) = cl 4 0 1 f := cl_ne (by intro k hk; omega)
  have e4 : cl 7 83 1 (up f 90 v) = cl 7 83 1 f := cl_ne (by intro k hk; omega)
  have e6 : cl 40 127 7 (up f 90 v) = cl 40 127 7 f := cl_ne (by intro k hk; omega)
  have e7 : cl 40 128 7 (up f 90 v) = cl 40 128 7 f := cl_ne (by intro k hk; omega)
  have e8 : cl 40 129 7 (up f 90 v) = cl 40 129 7 f := cl_ne (by intro k hk; omega)
  have e9 : cl 40 130 7 (up f 90 v) = cl 40 130 7 f := cl_ne (by intro k hk; omega)
  have e10 : cl 40 131 7 (up f 90 v) = cl 40 131 7 f := cl_ne (by intro k hk; omega)
  have b5 : mkB (up f 90 v) 5 = mkB f 5 := mkB_ne (by intro s hs; omega)
  have b6 : mkB (up f 90 v) 6 = mkB f 6 := mkB_ne (by intro s hs; omega)
  exact g_put X (wHW D a (up f 90 v) na w) hro hd hin tyX0_ok nmX0 rfl 11 rfl 4 (by decide) hlink rfl (ty := .int) (by decide +kernel) rfl rfl (Nat.le_of_ble_eq_true rfl) (by simp only [wHW, wH, e1, e2, e3, e4, e6, e7, e8, e9, e10, b5, b6]; rfl) hp kk
theorem gH_get_Board_wiped (X : GX p l e R s m args below meth c D A nL cc own Ts) {index : Nat} (hd : decode cc pc = .ok (.getfield index, 3)) (hin : ∀ w ∈ wsX00, w ∈ Ts) (hlink : Cond.fieldLink own index (TX0 5).1 (TX0 5).2.1 (TX0 5).2.2.1 ∈ Ts) (hp : pc + 3 = pc') (kk : GG p l e R s m args below meth c D A nL ro cs sl Q (wHW D a f na w) pc' lv (.int (f 81) :: st)) : GG p l e R s m args below meth c D A nL ro cs sl Q (wHW D a f na w) pc lv (.ref (a 13) :: st) := g_get X hd hin rfl 11 rfl 5 (by decide) hlink rfl hp kk
theorem gH_put_Board_wiped (X : GX p l e R s m args below meth c D A nL cc own Ts) {index : Nat} {v : Int32} (hro : ro = false) (hd : decode cc pc = .ok (.putfield index, 3)) (hin : ∀ w ∈ wsX00, w ∈ Ts) (hlink : Cond.fieldLink own index (TX0 5).1 (TX0 5).2.1 (TX0 5).2.2.1 ∈ Ts) (hp : pc + 3 = pc') (kk : GG p l e R s m args below meth c D A nL ro cs sl Q (wHW D a (up f 81 v) na w) pc' lv st) : GG p l e R s m args below meth c D A nL ro cs sl Q (wHW D a f na w) pc lv (.int v :: .ref (a 13) :: st) := by
  have e1 : cl 12 4 1 (up f 81 v) = cl 12 4 1 f := cl_ne (by intro k hk; omega)
  have e2 : cl 60 16 1 (up f 81 v) = cl 60 16 1 f := cl_ne (by intro k hk; omega)
  have e3 : cl 4 0 1 (up f 81 v) = cl 4 0 1 f := cl_ne (by intro k hk; omega)
  have e4 : cl 7 83 1 (up f 81 v) = cl 7 83 1 f := cl_ne (by intro k hk; omega)
  have e6 : cl 40 127 7 (up f 81 v) = cl 40 127 7 f := cl_ne (by intro k hk; omega)
  have e7 : cl 40 128 7 (up f 81 v) = cl 40 128 7 f := cl_ne (by intro k hk; omega)
  have e8 : cl 40 129 7 (up f 81 v) = cl 40 129 7 f := cl_ne (by intro k hk; omega)
  have e9 : cl 40 130 7 (up f 81 v) = cl 40 130 7 f := cl_ne (by intro k hk; omega)
  have e10 : cl 40 131 7 (up f 81 v) = cl 40 131 7 f := cl_ne (by intro k hk; omega)
  have b5 : mkB (up f 81 v) 5 = mkB f 5 := mkB_ne (by intro s hs; omega)
  have b6 : mkB (up f 81 v) 6 = mkB f 6 := mkB_ne (by intro s hs; omega)
  exact g_put X (wHW D a (up f 81 v) na w) hro hd hin tyX0_ok nmX0 rfl 11 rfl 5 (by decide) hlink rfl (ty := .int) (by decide +kernel) rfl rfl (Nat.le_of_ble_eq_true rfl) (by simp only [wHW, wH, e1, e2, e3, e4, e6, e7, e8, e9, e10, b5, b6]; rfl) hp kk
theorem gH_get_Board_dropped (X : GX p l e R s m args below meth c D A nL cc own Ts) {index : Nat} (hd : decode cc pc = .ok (.getfield index, 3)) (hin : ∀ w ∈ wsX00, w ∈ Ts) (hlink : Cond.fieldLink own index (TX0 6).1 (TX0 6).2.1 (TX0 6).2.2.1 ∈ Ts) (hp : pc + 3 = pc') (kk : GG p l e R s m args below meth c D A nL ro cs sl Q (wHW D a f na w) pc' lv (.int (f 82) :: st)) : GG p l e R s m args below meth c D A nL ro cs sl Q (wHW D a f na w) pc lv (.ref (a 13) :: st) := g_get X hd hin rfl 11 rfl 6 (by decide) hlink rfl hp kk
theorem gH_put_Board_dropped (X : GX p l e R s m args below meth c D A nL cc own Ts) {index : Nat} {v : Int32} (hro : ro = false) (hd : decode cc pc = .ok (.putfield index, 3)) (hin : ∀ w ∈ wsX00, w ∈ Ts) (hlink : Cond.fieldLink own index (TX0 6).1 (TX0 6).2.1 (TX0 6).2.2.1 ∈ Ts) (hp : pc + 3 = pc') (kk : GG p l e R s m args below meth c D A nL ro cs sl Q (wHW D a (up f 82 v) na w) pc' lv st) : GG p l e R s m args below meth c D A nL ro cs sl Q (wHW D a f na w) pc lv (.int v :: .ref (a 13) :: st) := by
  have e1 : cl 12 4 1 (up f 82 v) = cl 12 4 1 f := cl_ne (by intro k hk; omega)
  have e2 : cl 60 16 1 (up f 82 v) = cl 60 16 1 f := cl_ne (by intro k hk; omega)
  have e3 : cl 4 0 1 (up f 82 v) = cl 4 0 1 f := cl_ne (by intro k hk; omega)
  have e4 : cl 7 83 1 (up f 82 v) = cl 7 83 1 f := cl_ne (by intro k hk; omega)
  have e6 : cl 40 127 7 (up f 82 v) = cl 40 127 7 f := cl_ne (by intro k hk; omega)
  have e7 : cl 40 128 7 (up f 82 v) = cl 40 128 7 f := cl_ne (by intro k hk; omega)
  have e8 : cl 40 129 7 (up f 82 v) = cl 40 129 7 f := cl_ne (by intro k hk; omega)
  have e9 : cl 40 130 7 (up f 82 v) = cl 40 130 7 f := cl_ne (by intro k hk; omega)
  have e10 : cl 40 131 7 (up f 82 v) = cl 40 131 7 f := cl_ne (by intro k hk; omega)
  have b5 : mkB (up f 82 v) 5 = mkB f 5 := mkB_ne (by intro s hs; omega)
  have b6 : mkB (up f 82 v) 6 = mkB f 6 := mkB_ne (by intro s hs; omega)
  exact g_put X (wHW D a (up f 82 v) na w) hro hd hin tyX0_ok nmX0 rfl 11 rfl 6 (by decide) hlink rfl (ty := .int) (by decide +kernel) rfl rfl (Nat.le_of_ble_eq_true rfl) (by simp only [wHW, wH, e1, e2, e3, e4, e6, e7, e8, e9, e10, b5, b6]; rfl) hp kk
theorem gH_get_Walk_reason (X : GX p l e R s m args below meth c D A nL cc own Ts) {index : Nat} (hd : decode cc pc = .ok (.getfield index, 3)) (hin : ∀ w ∈ wsX50, w ∈ Ts) (hlink : Cond.fieldLink own index (TX5 0).1 (TX5 0).2.1 (TX5 0).2.2.1 ∈ Ts) (hp : pc + 3 = pc') (kk : GG p l e R s m args below meth c D A nL ro cs sl Q (wHW D a f na w) pc' lv (.int (w 0) :: st)) : GG p l e R s m args below meth c D A nL ro cs sl Q (wHW D a f na w) pc lv (.ref (a 18) :: st) := g_get X hd hin rfl 16 rfl 0 (by decide) hlink rfl hp kk
theorem gH_put_Walk_reason (X : GX p l e R s m args below meth c D A nL cc own Ts) {index : Nat} {v : Int32} (hro : ro = false) (hd : decode cc pc = .ok (.putfield index, 3)) (hin : ∀ w ∈ wsX50, w ∈ Ts) (hlink : Cond.fieldLink own index (TX5 0).1 (TX5 0).2.1 (TX5 0).2.2.1 ∈ Ts) (hp : pc + 3 = pc') (kk : GG p l e R s m args below meth c D A nL ro cs sl Q (wHW D a f na (up w 0 v)) pc' lv st) : GG p l e R s m args below meth c D A nL ro cs sl Q (wHW D a f na w) pc lv (.int v :: .ref (a 18) :: st) := by
  exact g_put X (wHW D a f na (up w 0 v)) hro hd hin tyX5_ok nmX5 rfl 16 rfl 0 (by decide) hlink rfl (ty := .int) (by decide +kernel) rfl rfl (Nat.le_of_ble_eq_true rfl) rfl hp kk
theorem gH_get_Walk_steps (X : GX p l e R s m args below meth c D A nL cc own Ts) {index : Nat} (hd : decode cc pc = .ok (.getfield index, 3)) (hin : ∀ w ∈ wsX50, w ∈ Ts) (hlink : Cond.fieldLink own index (TX5 1).1 (TX5 1).2.1 (TX5 1).2.2.1 ∈ Ts) (hp : pc + 3 = pc') (kk : GG p l e R s m args below meth c D A nL ro cs sl Q (wHW D a f na w) pc' lv (.int (w 1) :: st)) : GG p l e R s m args below meth c D A nL ro cs sl Q (wHW D a f na w) pc lv (.ref (a 18) :: st) := g_get X hd hin rfl 16 rfl 1 (by decide) hlink rfl hp kk
theorem gH_put_Walk_steps (X : GX p l e R s m args below meth c D A nL cc own Ts) {index : Nat} {v : Int32} (hro : ro = false) (hd : decode cc pc = .ok (.putfield index, 3)) (hin : ∀ w ∈ wsX50, w ∈ Ts) (hlink : Cond.fieldLink own index (TX5 1).1 (TX5 1).2.1 (TX5 1).2.2.1 ∈ Ts) (hp : pc + 3 = pc') (kk : GG p l e R s m args below meth c D A nL ro cs sl Q (wHW D a f na (up w 1 v)) pc' lv st) : GG p l e R s m args below meth c D A nL ro cs sl Q (wHW D a f na w) pc lv (.int v :: .ref (a 18) :: st) := by
  exact g_put X (wHW D a f na (up w 1 v)) hro hd hin tyX5_ok nmX5 rfl 16 rfl 1 (by decide) hlink rfl (ty := .int) (by decide +kernel) rfl rfl (Nat.le_of_ble_eq_true rfl) rfl hp kk
theorem gH_ld_House_owners (X : GX p l e R s m args below meth c D A nL cc own Ts) {i : Int32} {k : Nat} (hd : decode cc pc = .ok (.iaload, 1)) (hi : i = nI k) (hk : k < 12) (hp : pc + 1 = pc') (kk : GG p l e R s m args below meth c D A nL ro cs sl Q (wHW D a f na w) pc' lv (.int (f (4 + 1 * k)) :: st)) : GG p l e R s m args below meth c D A nL ro cs sl Q (wHW D a f na w) pc lv (.int i :: .ref (a 1) :: st) := by
  obtain ⟨h1, h2⟩ := ix_of hi hk (by decide)
  refine g_iald X hd 1 rfl rfl h1 hp ?_
  rw [h2, cl_in hk]
  exact kk
theorem gH_st_House_owners (X : GX p l e R s m args below meth c D A nL cc own Ts) {i x : Int32} {k : Nat} (hro : ro = false) (hd : decode cc pc = .ok (.iastore, 1)) (hi : i = nI k) (hk : k < 12) (hp : pc + 1 = pc') (kk : GG p l e R s m args below meth c D A nL ro cs sl Q (wHW D a (up f (4 + 1 * k) x) na w) pc' lv st) : GG p l e R s m args below meth c D A nL ro cs sl Q (wHW D a f na w) pc lv (.int x :: .int i :: .ref (a 1) :: st) := by
  obtain ⟨h1, h2⟩ := ix_of hi hk (by decide)
  have e2 : cl 60 16 1 (up f (4 + 1 * k) x) = cl 60 16 1 f := cl_ne (by intro j hj; omega)
  have e3 : cl 4 0 1 (up f (4 + 1 * k) x) = cl 4 0 1 f := cl_ne (by intro j hj; omega)
  have e4 : cl 7 83 1 (up f (4 + 1 * k) x) = cl 7 83 1 f := cl_ne (by intro j hj; omega)
  have e6 : cl 40 127 7 (up f (4 + 1 * k) x) = cl 40 127 7 f := cl_ne (by intro j hj; omega)
  have e7 : cl 40 128 7 (up f (4 + 1 * k) x) = cl 40 128 7 f := cl_ne (by intro j hj; omega)
  have e8 : cl 40 129 7 (up f (4 + 1 * k) x) = cl 40 129 7 f := cl_ne (by intro j hj; omega)
  have e9 : cl 40 130 7 (up f (4 + 1 * k) x) = cl 40 130 7 f := cl_ne (by intro j hj; omega)
  have e10 : cl 40 131 7 (up f (4 + 1 * k) x) = cl 40 131 7 f := cl_ne (by intro j hj; omega)
  have e1 : cl 12 4 1 (up f (4 + 1 * k) x) = upd (cl 12 4 1 f) k x := (cl_upd (by decide) hk).symm
  have s77 : up f (4 + 1 * k) x 77 = f 77 := up_n f x (by omega)
  have s78 : up f (4 + 1 * k) x 78 = f 78 := up_n f x (by omega)
  have s79 : up f (4 + 1 * k) x 79 = f 79 := up_n f x (by omega)
  have s80 : up f (4 + 1 * k) x 80 = f 80 := up_n f x (by omega)
  have s76 : up f (4 + 1 * k) x 76 = f 76 := up_n f x (by omega)
  have s90 : up f (4 + 1 * k) x 90 = f 90 := up_n f x (by omega)
  have s81 : up f (4 + 1 * k) x 81 = f 81 := up_n f x (by omega)
  have s82 : up f (4 + 1 * k) x 82 = f 82 := up_n f x (by omega)
  have b5 : mkB (up f (4 + 1 * k) x) 5 = mkB f 5 := mkB_ne (by intro s hs; omega)
  have b6 : mkB (up f (4 + 1 * k) x) 6 = mkB f 6 := mkB_ne (by intro s hs; omega)
  refine g_iast X (wHW D a (up f (4 + 1 * k) x) na w) hro hd 1 rfl rfl h1 ?_ hp kk
  rw [h2]
  simp only [wHW, wH, e1, e2, e3, e4, e6, e7, e8, e9, e10, s77, s78, s79, s80, s76, s90, s81, s82, b5, b6]
  rfl
theorem gH_ld_House_doors (X : GX p l e R s m args below meth c D A nL cc own Ts) {i : Int32} {k : Nat} (hd : decode cc pc = .ok (.iaload, 1)) (hi : i = nI k) (hk : k < 60) (hp : pc + 1 = pc') (kk : GG p l e R s m args below meth c D A nL ro cs sl Q (wHW D a f na w) pc' lv (.int (f (16 + 1 * k)) :: st)) : GG p l e R s m args below meth c D A nL ro cs sl Q (wHW D a f na w) pc lv (.int i :: .ref (a 2) :: st) := by
  obtain ⟨h1, h2⟩ := ix_of hi hk (by decide)
  refine g_iald X hd 2 rfl rfl h1 hp ?_
  rw [h2, cl_in hk]
  exact kk
theorem gH_st_House_doors (X : GX p l e R s m args below meth c D A nL cc own Ts) {i x : Int32} {k : Nat} (hro : ro = false) (hd : decode cc pc = .ok (.iastore, 1)) (hi : i = nI k) (hk : k < 60) (hp : pc + 1 = pc') (kk : GG p l e R s m args below meth c D A nL ro cs sl Q (wHW D a (up f (16 + 1 * k) x) na w) pc' lv st) : GG p l e R s m args below meth c D A nL ro cs sl Q (wHW D a f na w) pc lv (.int x :: .int i :: .ref (a 2) :: st) := by
  obtain ⟨h1, h2⟩ := ix_of hi hk (by decide)
  have e1 : cl 12 4 1 (up f (16 + 1 * k) x) = cl 12 4 1 f := cl_ne (by intro j hj; omega)
  have e3 : cl 4 0 1 (up f (16 + 1 * k) x) = cl 4 0 1 f := cl_ne (by intro j hj; omega)
  have e4 : cl 7 83 1 (up f (16 + 1 * k) x) = cl 7 83 1 f := cl_ne (by intro j hj; omega)
  have e6 : cl 40 127 7 (up f (16 + 1 * k) x) = cl 40 127 7 f := cl_ne (by intro j hj; omega)
  have e7 : cl 40 128 7 (up f (16 + 1 * k) x) = cl 40 128 7 f := cl_ne (by intro j hj; omega)
  have e8 : cl 40 129 7 (up f (16 + 1 * k) x) = cl 40 129 7 f := cl_ne (by intro j hj; omega)
  have e9 : cl 40 130 7 (up f (16 + 1 * k) x) = cl 40 130 7 f := cl_ne (by intro j hj; omega)
  have e10 : cl 40 131 7 (up f (16 + 1 * k) x) = cl 40 131 7 f := cl_ne (by intro j hj; omega)
  have e2 : cl 60 16 1 (up f (16 + 1 * k) x) = upd (cl 60 16 1 f) k x := (cl_upd (by decide) hk).symm
  have s77 : up f (16 + 1 * k) x 77 = f 77 := up_n f x (by omega)
  have s78 : up f (16 + 1 * k) x 78 = f 78 := up_n f x (by omega)
  have s79 : up f (16 + 1 * k) x 79 = f 79 := up_n f x (by omega)
  have s80 : up f (16 + 1 * k) x 80 = f 80 := up_n f x (by omega)
  have s76 : up f (16 + 1 * k) x 76 = f 76 := up_n f x (by omega)
  have s90 : up f (16 + 1 * k) x 90 = f 90 := up_n f x (by omega)
  have s81 : up f (16 + 1 * k) x 81 = f 81 := up_n f x (by omega)
  have s82 : up f (16 + 1 * k) x 82 = f 82 := up_n f x (by omega)
  have b5 : mkB (up f (16 + 1 * k) x) 5 = mkB f 5 := mkB_ne (by intro s hs; omega)
  have b6 : mkB (up f (16 + 1 * k) x) 6 = mkB f 6 := mkB_ne (by intro s hs; omega)
  refine g_iast X (wHW D a (up f (16 + 1 * k) x) na w) hro hd 2 rfl rfl h1 ?_ hp kk
  rw [h2]
  simp only [wHW, wH, e1, e2, e3, e4, e6, e7, e8, e9, e10, s77, s78, s79, s80, s76, s90, s81, s82, b5, b6]
  rfl
theorem gH_ld_House_settings (X : GX p l e R s m args below meth c D A nL cc own Ts) {i : Int32} {k : Nat} (hd : decode cc pc = .ok (.iaload, 1)) (hi : i = nI k) (hk : k < 4) (hp : pc + 1 = pc') (kk : GG p l e R s m args below meth c D A nL ro cs sl Q (wHW D a f na w) pc' lv (.int (f (0 + 1 * k)) :: st)) : GG p l e R s m args below meth c D A nL ro cs sl Q (wHW D a f na w) pc lv (.int i :: .ref (a 3) :: st) := by
  obtain ⟨h1, h2⟩ := ix_of hi hk (by decide)
  refine g_iald X hd 3 rfl rfl h1 hp ?_
  rw [h2, cl_in hk]
  exact kk
theorem gH_st_House_settings (X : GX p l e R s m args below meth c D A nL cc own Ts) {i x : Int32} {k : Nat} (hro : ro = false) (hd : decode cc pc = .ok (.iastore, 1)) (hi : i = nI k) (hk : k < 4) (hp : pc + 1 = pc') (kk : GG p l e R s m args below meth c D A nL ro cs sl Q (wHW D a (up f (0 + 1 * k) x) na w) pc' lv st) : GG p l e R s m args below meth c D A nL ro cs sl Q (wHW D a f na w) pc lv (.int x :: .int i :: .ref (a 3) :: st) := by
  obtain ⟨h1, h2⟩ := ix_of hi hk (by decide)
  have e1 : cl 12 4 1 (up f (0 + 1 * k) x) = cl 12 4 1 f := cl_ne (by intro j hj; omega)
  have e2 : cl 60 16 1 (up f (0 + 1 * k) x) = cl 60 16 1 f := cl_ne (by intro j hj; omega)
  have e4 : cl 7 83 1 (up f (0 + 1 * k) x) = cl 7 83 1 f := cl_ne (by intro j hj; omega)
  have e6 : cl 40 127 7 (up f (0 + 1 * k) x) = cl 40 127 7 f := cl_ne (by intro j hj; omega)
  have e7 : cl 40 128 7 (up f (0 + 1 * k) x) = cl 40 128 7 f := cl_ne (by intro j hj; omega)
  have e8 : cl 40 129 7 (up f (0 + 1 * k) x) = cl 40 129 7 f := cl_ne (by intro j hj; omega)
  have e9 : cl 40 130 7 (up f (0 + 1 * k) x) = cl 40 130 7 f := cl_ne (by intro j hj; omega)
  have e10 : cl 40 131 7 (up f (0 + 1 * k) x) = cl 40 131 7 f := cl_ne (by intro j hj; omega)
  have e3 : cl 4 0 1 (up f (0 + 1 * k) x) = upd (cl 4 0 1 f) k x := (cl_upd (by decide) hk).symm
  have s77 : up f (0 + 1 * k) x 77 = f 77 := up_n f x (by omega)
  have s78 : up f (0 + 1 * k) x 78 = f 78 := up_n f x (by omega)
  have s79 : up f (0 + 1 * k) x 79 = f 79 := up_n f x (by omega)
  have s80 : up f (0 + 1 * k) x 80 = f 80 := up_n f x (by omega)
  have s76 : up f (0 + 1 * k) x 76 = f 76 := up_n f x (by omega)
  have s90 : up f (0 + 1 * k) x 90 = f 90 := up_n f x (by omega)
  have s81 : up f (0 + 1 * k) x 81 = f 81 := up_n f x (by omega)
  have s82 : up f (0 + 1 * k) x 82 = f 82 := up_n f x (by omega)
  have b5 : mkB (up f (0 + 1 * k) x) 5 = mkB f 5 := mkB_ne (by intro s hs; omega)
  have b6 : mkB (up f (0 + 1 * k) x) 6 = mkB f 6 := mkB_ne (by intro s hs; omega)
  refine g_iast X (wHW D a (up f (0 + 1 * k) x) na w) hro hd 3 rfl rfl h1 ?_ hp kk
  rw [h2]
  simp only [wHW, wH, e1, e2, e3, e4, e6, e7, e8, e9, e10, s77, s78, s79, s80, s76, s90, s81, s82, b5, b6]
  rfl
theorem gH_ld_House_endings (X : GX p l e R s m args below meth c D A nL cc own Ts) {i : Int32} {k : Nat} (hd : decode cc pc = .ok (.iaload, 1)) (hi : i = nI k) (hk : k < 7) (hp : pc + 1 = pc') (kk : GG p l e R s m args below meth c D A nL ro cs sl Q (wHW D a f na w) pc' lv (.int (f (83 + 1 * k)) :: st)) : GG p l e R s m args below meth c D A nL ro cs sl Q (wHW D a f na w) pc lv (.int i :: .ref (a 4) :: st) := by
  obtain ⟨h1, h2⟩ := ix_of hi hk (by decide)
  refine g_iald X hd 4 rfl rfl h1 hp ?_
  rw [h2, cl_in hk]
  exact kk
theorem gH_st_House_endings (X : GX p l e R s m args below meth c D A nL cc own Ts) {i x : Int32} {k : Nat} (hro : ro = false) (hd : decode cc pc = .ok (.iastore, 1)) (hi : i = nI k) (hk : k < 7) (hp : pc + 1 = pc') (kk : GG p l e R s m args below meth c D A nL ro cs sl Q (wHW D a (up f (83 + 1 * k) x) na w) pc' lv st) : GG p l e R s m args below meth c D A nL ro cs sl Q (wHW D a f na w) pc lv (.int x :: .int i :: .ref (a 4) :: st) := by
  obtain ⟨h1, h2⟩ := ix_of hi hk (by decide)
  have e1 : cl 12 4 1 (up f (83 + 1 * k) x) = cl 12 4 1 f := cl_ne (by intro j hj; omega)
  have e2 : cl 60 16 1 (up f (83 + 1 * k) x) = cl 60 16 1 f := cl_ne (by intro j hj; omega)
  have e3 : cl 4 0 1 (up f (83 + 1 * k) x) = cl 4 0 1 f := cl_ne (by intro j hj; omega)
  have e6 : cl 40 127 7 (up f (83 + 1 * k) x) = cl 40 127 7 f := cl_ne (by intro j hj; omega)
  have e7 : cl 40 128 7 (up f (83 + 1 * k) x) = cl 40 128 7 f := cl_ne (by intro j hj; omega)
  have e8 : cl 40 129 7 (up f (83 + 1 * k) x) = cl 40 129 7 f := cl_ne (by intro j hj; omega)
  have e9 : cl 40 130 7 (up f (83 + 1 * k) x) = cl 40 130 7 f := cl_ne (by intro j hj; omega)
  have e10 : cl 40 131 7 (up f (83 + 1 * k) x) = cl 40 131 7 f := cl_ne (by intro j hj; omega)
  have e4 : cl 7 83 1 (up f (83 + 1 * k) x) = upd (cl 7 83 1 f) k x := (cl_upd (by decide) hk).symm
  have s77 : up f (83 + 1 * k) x 77 = f 77 := up_n f x (by omega)
  have s78 : up f (83 + 1 * k) x 78 = f 78 := up_n f x (by omega)
  have s79 : up f (83 + 1 * k) x 79 = f 79 := up_n f x (by omega)
  have s80 : up f (83 + 1 * k) x 80 = f 80 := up_n f x (by omega)
  have s76 : up f (83 + 1 * k) x 76 = f 76 := up_n f x (by omega)
  have s90 : up f (83 + 1 * k) x 90 = f 90 := up_n f x (by omega)
  have s81 : up f (83 + 1 * k) x 81 = f 81 := up_n f x (by omega)
  have s82 : up f (83 + 1 * k) x 82 = f 82 := up_n f x (by omega)
  have b5 : mkB (up f (83 + 1 * k) x) 5 = mkB f 5 := mkB_ne (by intro s hs; omega)
  have b6 : mkB (up f (83 + 1 * k) x) 6 = mkB f 6 := mkB_ne (by intro s hs; omega)
  refine g_iast X (wHW D a (up f (83 + 1 * k) x) na w) hro hd 4 rfl rfl h1 ?_ hp kk
  rw [h2]
  simp only [wHW, wH, e1, e2, e3, e4, e6, e7, e8, e9, e10, s77, s78, s79, s80, s76, s90, s81, s82, b5, b6]
  rfl
theorem gH_ld_Stamps_page (X : GX p l e R s m args below meth c D A nL cc own Ts) {i : Int32} {k : Nat} (hd : decode cc pc = .ok (.iaload, 1)) (hi : i = nI k) (hk : k < 40) (hp : pc + 1 = pc') (kk : GG p l e R s m args below meth c D A nL ro cs sl Q (wHW D a f na w) pc' lv (.int (f (127 + 7 * k)) :: st)) : GG p l e R s m args below meth c D A nL ro cs sl Q (wHW D a f na w) pc lv (.int i :: .ref (a 6) :: st) := by
  obtain ⟨h1, h2⟩ := ix_of hi hk (by decide)
  refine g_iald X hd 6 rfl rfl h1 hp ?_
  rw [h2, cl_in hk]
  exact kk
theorem gH_st_Stamps_page (X : GX p l e R s m args below meth c D A nL cc own Ts) {i x : Int32} {k : Nat} (hro : ro = false) (hd : decode cc pc = .ok (.iastore, 1)) (hi : i = nI k) (hk : k < 40) (hp : pc + 1 = pc') (kk : GG p l e R s m args below meth c D A nL ro cs sl Q (wHW D a (up f (127 + 7 * k) x) na w) pc' lv st) : GG p l e R s m args below meth c D A nL ro cs sl Q (wHW D a f na w) pc lv (.int x :: .int i :: .ref (a 6) :: st) := by
  obtain ⟨h1, h2⟩ := ix_of hi hk (by decide)
  have e1 : cl 12 4 1 (up f (127 + 7 * k) x) = cl 12 4 1 f := cl_ne (by intro j hj; omega)
  have e2 : cl 60 16 1 (up f (127 + 7 * k) x) = cl 60 16 1 f := cl_ne (by intro j hj; omega)
  have e3 : cl 4 0 1 (up f (127 + 7 * k) x) = cl 4 0 1 f := cl_ne (by intro j hj; omega)
  have e4 : cl 7 83 1 (up f (127 + 7 * k) x) = cl 7 83 1 f := cl_ne (by intro j hj; omega)
  have e7 : cl 40 128 7 (up f (127 + 7 * k) x) = cl 40 128 7 f := cl_ne (by intro j hj; omega)
  have e8 : cl 40 129 7 (up f (127 + 7 * k) x) = cl 40 129 7 f := cl_ne (by intro j hj; omega)
  have e9 : cl 40 130 7 (up f (127 + 7 * k) x) = cl 40 130 7 f := cl_ne (by intro j hj; omega)
  have e10 : cl 40 131 7 (up f (127 + 7 * k) x) = cl 40 131 7 f := cl_ne (by intro j hj; omega)
  have e6 : cl 40 127 7 (up f (127 + 7 * k) x) = upd (cl 40 127 7 f) k x := (cl_upd (by decide) hk).symm
  have s77 : up f (127 + 7 * k) x 77 = f 77 := up_n f x (by omega)
  have s78 : up f (127 + 7 * k) x 78 = f 78 := up_n f x (by omega)
  have s79 : up f (127 + 7 * k) x 79 = f 79 := up_n f x (by omega)
  have s80 : up f (127 + 7 * k) x 80 = f 80 := up_n f x (by omega)
  have s76 : up f (127 + 7 * k) x 76 = f 76 := up_n f x (by omega)
  have s90 : up f (127 + 7 * k) x 90 = f 90 := up_n f x (by omega)
  have s81 : up f (127 + 7 * k) x 81 = f 81 := up_n f x (by omega)
  have s82 : up f (127 + 7 * k) x 82 = f 82 := up_n f x (by omega)
  have b5 : mkB (up f (127 + 7 * k) x) 5 = mkB f 5 := mkB_ne (by intro s hs; omega)
  have b6 : mkB (up f (127 + 7 * k) x) 6 = mkB f 6 := mkB_ne (by intro s hs; omega)
  refine g_iast X (wHW D a (up f (127 + 7 * k) x) na w) hro hd 6 rfl rfl h1 ?_ hp kk
  rw [h2]
  simp only [wHW, wH, e1, e2, e3, e4, e6, e7, e8, e9, e10, s77, s78, s79, s80, s76, s90, s81, s82, b5, b6]
  rfl
theorem gH_ld_Stamps_giver (X : GX p l e R s m args below meth c D A nL cc own Ts) {i : Int32} {k : Nat} (hd : decode cc pc = .ok (.iaload, 1)) (hi : i = nI k) (hk : k < 40) (hp : pc + 1 = pc') (kk : GG p l e R s m args below meth c D A nL ro cs sl Q (wHW D a f na w) pc' lv (.int (f (128 + 7 * k)) :: st)) : GG p l e R s m args below meth c D A nL ro cs sl Q (wHW D a f na w) pc lv (.int i :: .ref (a 7) :: st) := by
  obtain ⟨h1, h2⟩ := ix_of hi hk (by decide)
  refine g_iald X hd 7 rfl rfl h1 hp ?_
  rw [h2, cl_in hk]
  exact kk
theorem gH_st_Stamps_giver (X : GX p l e R s m args below meth c D A nL cc own Ts) {i x : Int32} {k : Nat} (hro : ro = false) (hd : decode cc pc = .ok (.iastore, 1)) (hi : i = nI k) (hk : k < 40) (hp : pc + 1 = pc') (kk : GG p l e R s m args below meth c D A nL ro cs sl Q (wHW D a (up f (128 + 7 * k) x) na w) pc' lv st) : GG p l e R s m args below meth c D A nL ro cs sl Q (wHW D a f na w) pc lv (.int x :: .int i :: .ref (a 7) :: st) := by
  obtain ⟨h1, h2⟩ := ix_of hi hk (by decide)
  have e1 : cl 12 4 1 (up f (128 + 7 * k) x) = cl 12 4 1 f := cl_ne (by intro j hj; omega)
  have e2 : cl 60 16 1 (up f (128 + 7 * k) x) = cl 60 16 1 f := cl_ne (by intro j hj; omega)
  have e3 : cl 4 0 1 (up f (128 + 7 * k) x) = cl 4 0 1 f := cl_ne (by intro j hj; omega)
  have e4 : cl 7 83 1 (up f (128 + 7 * k) x) = cl 7 83 1 f := cl_ne (by intro j hj; omega)
  have e6 : cl 40 127 7 (up f (128 + 7 * k) x) = cl 40 127 7 f := cl_ne (by intro j hj; omega)
  have e8 : cl 40 129 7 (up f (128 + 7 * k) x) = cl 40 129 7 f := cl_ne (by intro j hj; omega)
  have e9 : cl 40 130 7 (up f (128 + 7 * k) x) = cl 40 130 7 f := cl_ne (by intro j hj; omega)
  have e10 : cl 40 131 7 (up f (128 + 7 * k) x) = cl 40 131 7 f := cl_ne (by intro j hj; omega)
  have e7 : cl 40 128 7 (up f (128 + 7 * k) x) = upd (cl 40 128 7 f) k x := (cl_upd (by decide) hk).symm
  have s77 : up f (128 + 7 * k) x 77 = f 77 := up_n f x (by omega)
  have s78 : up f (128 + 7 * k) x 78 = f 78 := up_n f x (by omega)
  have s79 : up f (128 + 7 * k) x 79 = f 79 := up_n f x (by omega)
  have s80 : up f (128 + 7 * k) x 80 = f 80 := up_n f x (by omega)
  have s76 : up f (128 + 7 * k) x 76 = f 76 := up_n f x (by omega)
  have s90 : up f (128 + 7 * k) x 90 = f 90 := up_n f x (by omega)
  have s81 : up f (128 + 7 * k) x 81 = f 81 := up_n f x (by omega)
  have s82 : up f (128 + 7 * k) x 82 = f 82 := up_n f x (by omega)
  have b5 : mkB (up f (128 + 7 * k) x) 5 = mkB f 5 := mkB_ne (by intro s hs; omega)
  have b6 : mkB (up f (128 + 7 * k) x) 6 = mkB f 6 := mkB_ne (by intro s hs; omega)
  refine g_iast X (wHW D a (up f (128 + 7 * k) x) na w) hro hd 7 rfl rfl h1 ?_ hp kk
  rw [h2]
  simp only [wHW, wH, e1, e2, e3, e4, e6, e7, e8, e9, e10, s77, s78, s79, s80, s76, s90, s81, s82, b5, b6]
  rfl
theorem gH_ld_Stamps_holder (X : GX p l e R s m args below meth c D A nL cc own Ts) {i : Int32} {k : Nat} (hd : decode cc pc = .ok (.iaload, 1)) (hi : i = nI k) (hk : k < 40) (hp : pc + 1 = pc') (kk : GG p l e R s m args below meth c D A nL ro cs sl Q (wHW D a f na w) pc' lv (.int (f (129 + 7 * k)) :: st)) : GG p l e R s m args below meth c D A nL ro cs sl Q (wHW D a f na w) pc lv (.int i :: .ref (a 8) :: st) := by
  obtain ⟨h1, h2⟩ := ix_of hi hk (by decide)
  refine g_iald X hd 8 rfl rfl h1 hp ?_
  rw [h2, cl_in hk]
  exact kk
theorem gH_st_Stamps_holder (X : GX p l e R s m args below meth c D A nL cc own Ts) {i x : Int32} {k : Nat} (hro : ro = false) (hd : decode cc pc = .ok (.iastore, 1)) (hi : i = nI k) (hk : k < 40) (hp : pc + 1 = pc') (kk : GG p l e R s m args below meth c D A nL ro cs sl Q (wHW D a (up f (129 + 7 * k) x) na w) pc' lv st) : GG p l e R s m args below meth c D A nL ro cs sl Q (wHW D a f na w) pc lv (.int x :: .int i :: .ref (a 8) :: st) := by
  obtain ⟨h1, h2⟩ := ix_of hi hk (by decide)
  have e1 : cl 12 4 1 (up f (129 + 7 * k) x) = cl 12 4 1 f := cl_ne (by intro j hj; omega)
  have e2 : cl 60 16 1 (up f (129 + 7 * k) x) = cl 60 16 1 f := cl_ne (by intro j hj; omega)
  have e3 : cl 4 0 1 (up f (129 + 7 * k) x) = cl 4 0 1 f := cl_ne (by intro j hj; omega)
  have e4 : cl 7 83 1 (up f (129 + 7 * k) x) = cl 7 83 1 f := cl_ne (by intro j hj; omega)
  have e6 : cl 40 127 7 (up f (129 + 7 * k) x) = cl 40 127 7 f := cl_ne (by intro j hj; omega)
  have e7 : cl 40 128 7 (up f (129 + 7 * k) x) = cl 40 128 7 f := cl_ne (by intro j hj; omega)
  have e9 : cl 40 130 7 (up f (129 + 7 * k) x) = cl 40 130 7 f := cl_ne (by intro j hj; omega)
  have e10 : cl 40 131 7 (up f (129 + 7 * k) x) = cl 40 131 7 f := cl_ne (by intro j hj; omega)
  have e8 : cl 40 129 7 (up f (129 + 7 * k) x) = upd (cl 40 129 7 f) k x := (cl_upd (by decide) hk).symm
  have s77 : up f (129 + 7 * k) x 77 = f 77 := up_n f x (by omega)
  have s78 : up f (129 + 7 * k) x 78 = f 78 := up_n f x (by omega)
  have s79 : up f (129 + 7 * k) x 79 = f 79 := up_n f x (by omega)
  have s80 : up f (129 + 7 * k) x 80 = f 80 := up_n f x (by omega)
  have s76 : up f (129 + 7 * k) x 76 = f 76 := up_n f x (by omega)
  have s90 : up f (129 + 7 * k) x 90 = f 90 := up_n f x (by omega)
  have s81 : up f (129 + 7 * k) x 81 = f 81 := up_n f x (by omega)
  have s82 : up f (129 + 7 * k) x 82 = f 82 := up_n f x (by omega)
  have b5 : mkB (up f (129 + 7 * k) x) 5 = mkB f 5 := mkB_ne (by intro s hs; omega)
  have b6 : mkB (up f (129 + 7 * k) x) 6 = mkB f 6 := mkB_ne (by intro s hs; omega)
  refine g_iast X (wHW D a (up f (129 + 7 * k) x) na w) hro hd 8 rfl rfl h1 ?_ hp kk
  rw [h2]
  simp only [wHW, wH, e1, e2, e3, e4, e6, e7, e8, e9, e10, s77, s78, s79, s80, s76, s90, s81, s82, b5, b6]
  rfl
theorem gH_ld_Stamps_rights (X : GX p l e R s m args below meth c D A nL cc own Ts) {i : Int32} {k : Nat} (hd : decode cc pc = .ok (.iaload, 1)) (hi : i = nI k) (hk : k < 40) (hp : pc + 1 = pc') (kk : GG p l e R s m args below meth c D A nL ro cs sl Q (wHW D a f na w) pc' lv (.int (f (130 + 7 * k)) :: st)) : GG p l e R s m args below meth c D A nL ro cs sl Q (wHW D a f na w) pc lv (.int i :: .ref (a 9) :: st) := by
  obtain ⟨h1, h2⟩ := ix_of hi hk (by decide)
  refine g_iald X hd 9 rfl rfl h1 hp ?_
  rw [h2, cl_in hk]
  exact kk
theorem gH_st_Stamps_rights (X : GX p l e R s m args below meth c D A nL cc own Ts) {i x : Int32} {k : Nat} (hro : ro = false) (hd : decode cc pc = .ok (.iastore, 1)) (hi : i = nI k) (hk : k < 40) (hp : pc + 1 = pc') (kk : GG p l e R s m args below meth c D A nL ro cs sl Q (wHW D a (up f (130 + 7 * k) x) na w) pc' lv st) : GG p l e R s m args below meth c D A nL ro cs sl Q (wHW D a f na w) pc lv (.int x :: .int i :: .ref (a 9) :: st) := by
  obtain ⟨h1, h2⟩ := ix_of hi hk (by decide)
  have e1 : cl 12 4 1 (up f (130 + 7 * k) x) = cl 12 4 1 f := cl_ne (by intro j hj; omega)
  have e2 : cl 60 16 1 (up f (130 + 7 * k) x) = cl 60 16 1 f := cl_ne (by intro j hj; omega)
  have e3 : cl 4 0 1 (up f (130 + 7 * k) x) = cl 4 0 1 f := cl_ne (by intro j hj; omega)
  have e4 : cl 7 83 1 (up f (130 + 7 * k) x) = cl 7 83 1 f := cl_ne (by intro j hj; omega)
  have e6 : cl 40 127 7 (up f (130 + 7 * k) x) = cl 40 127 7 f := cl_ne (by intro j hj; omega)
  have e7 : cl 40 128 7 (up f (130 + 7 * k) x) = cl 40 128 7 f := cl_ne (by intro j hj; omega)
  have e8 : cl 40 129 7 (up f (130 + 7 * k) x) = cl 40 129 7 f := cl_ne (by intro j hj; omega)
  have e10 : cl 40 131 7 (up f (130 + 7 * k) x) = cl 40 131 7 f := cl_ne (by intro j hj; omega)
  have e9 : cl 40 130 7 (up f (130 + 7 * k) x) = upd (cl 40 130 7 f) k x := (cl_upd (by decide) hk).symm
  have s77 : up f (130 + 7 * k) x 77 = f 77 := up_n f x (by omega)
  have s78 : up f (130 + 7 * k) x 78 = f 78 := up_n f x (by omega)
  have s79 : up f (130 + 7 * k) x 79 = f 79 := up_n f x (by omega)
  have s80 : up f (130 + 7 * k) x 80 = f 80 := up_n f x (by omega)
  have s76 : up f (130 + 7 * k) x 76 = f 76 := up_n f x (by omega)
  have s90 : up f (130 + 7 * k) x 90 = f 90 := up_n f x (by omega)
  have s81 : up f (130 + 7 * k) x 81 = f 81 := up_n f x (by omega)
  have s82 : up f (130 + 7 * k) x 82 = f 82 := up_n f x (by omega)
  have b5 : mkB (up f (130 + 7 * k) x) 5 = mkB f 5 := mkB_ne (by intro s hs; omega)
  have b6 : mkB (up f (130 + 7 * k) x) 6 = mkB f 6 := mkB_ne (by intro s hs; omega)
  refine g_iast X (wHW D a (up f (130 + 7 * k) x) na w) hro hd 9 rfl rfl h1 ?_ hp kk
  rw [h2]
  simp only [wHW, wH, e1, e2, e3, e4, e6, e7, e8, e9, e10, s77, s78, s79, s80, s76, s90, s81, s82, b5, b6]
  rfl
theorem gH_ld_Stamps_root (X : GX p l e R s m args below meth c D A nL cc own Ts) {i : Int32} {k : Nat} (hd : decode cc pc = .ok (.iaload, 1)) (hi : i = nI k) (hk : k < 40) (hp : pc + 1 = pc') (kk : GG p l e R s m args below meth c D A nL ro cs sl Q (wHW D a f na w) pc' lv (.int (f (131 + 7 * k)) :: st)) : GG p l e R s m args below meth c D A nL ro cs sl Q (wHW D a f na w) pc lv (.int i :: .ref (a 10) :: st) := by
  obtain ⟨h1, h2⟩ := ix_of hi hk (by decide)
  refine g_iald X hd 10 rfl rfl h1 hp ?_
  rw [h2, cl_in hk]
  exact kk
theorem gH_st_Stamps_root (X : GX p l e R s m args below meth c D A nL cc own Ts) {i x : Int32} {k : Nat} (hro : ro = false) (hd : decode cc pc = .ok (.iastore, 1)) (hi : i = nI k) (hk : k < 40) (hp : pc + 1 = pc') (kk : GG p l e R s m args below meth c D A nL ro cs sl Q (wHW D a (up f (131 + 7 * k) x) na w) pc' lv st) : GG p l e R s m args below meth c D A nL ro cs sl Q (wHW D a f na w) pc lv (.int x :: .int i :: .ref (a 10) :: st) := by
  obtain ⟨h1, h2⟩ := ix_of hi hk (by decide)
  have e1 : cl 12 4 1 (up f (131 + 7 * k) x) = cl 12 4 1 f := cl_ne (by intro j hj; omega)
  have e2 : cl 60 16 1 (up f (131 + 7 * k) x) = cl 60 16 1 f := cl_ne (by intro j hj; omega)
  have e3 : cl 4 0 1 (up f (131 + 7 * k) x) = cl 4 0 1 f := cl_ne (by intro j hj; omega)
  have e4 : cl 7 83 1 (up f (131 + 7 * k) x) = cl 7 83 1 f := cl_ne (by intro j hj; omega)
  have e6 : cl 40 127 7 (up f (131 + 7 * k) x) = cl 40 127 7 f := cl_ne (by intro j hj; omega)
  have e7 : cl 40 128 7 (up f (131 + 7 * k) x) = cl 40 128 7 f := cl_ne (by intro j hj; omega)
  have e8 : cl 40 129 7 (up f (131 + 7 * k) x) = cl 40 129 7 f := cl_ne (by intro j hj; omega)
  have e9 : cl 40 130 7 (up f (131 + 7 * k) x) = cl 40 130 7 f := cl_ne (by intro j hj; omega)
  have e10 : cl 40 131 7 (up f (131 + 7 * k) x) = upd (cl 40 131 7 f) k x := (cl_upd (by decide) hk).symm
  have s77 : up f (131 + 7 * k) x 77 = f 77 := up_n f x (by omega)
  have s78 : up f (131 + 7 * k) x 78 = f 78 := up_n f x (by omega)
  have s79 : up f (131 + 7 * k) x 79 = f 79 := up_n f x (by omega)
  have s80 : up f (131 + 7 * k) x 80 = f 80 := up_n f x (by omega)
  have s76 : up f (131 + 7 * k) x 76 = f 76 := up_n f x (by omega)
  have s90 : up f (131 + 7 * k) x 90 = f 90 := up_n f x (by omega)
  have s81 : up f (131 + 7 * k) x 81 = f 81 := up_n f x (by omega)
  have s82 : up f (131 + 7 * k) x 82 = f 82 := up_n f x (by omega)
  have b5 : mkB (up f (131 + 7 * k) x) 5 = mkB f 5 := mkB_ne (by intro s hs; omega)
  have b6 : mkB (up f (131 + 7 * k) x) 6 = mkB f 6 := mkB_ne (by intro s hs; omega)
  refine g_iast X (wHW D a (up f (131 + 7 * k) x) na w) hro hd 10 rfl rfl h1 ?_ hp kk
  rw [h2]
  simp only [wHW, wH, e1, e2, e3, e4, e6, e7, e8, e9, e10, s77, s78, s79, s80, s76, s90, s81, s82, b5, b6]
  rfl
theorem gH_ld_Board_guest (X : GX p l e R s m args below meth c D A nL cc own Ts) {i : Int32} {k : Nat} (hd : decode cc pc = .ok (.iaload, 1)) (hi : i = nI k) (hk : k < 8) (hp : pc + 1 = pc') (kk : GG p l e R s m args below meth c D A nL ro cs sl Q (wHW D a f na w) pc' lv (.int (na 0 k) :: st)) : GG p l e R s m args below meth c D A nL ro cs sl Q (wHW D a f na w) pc lv (.int i :: .ref (a 14) :: st) := by
  obtain ⟨h1, h2⟩ := ix_of hi hk (by decide)
  refine g_iald X hd 12 rfl rfl h1 hp ?_
  rw [h2, cl_in hk]
  rw [Nat.zero_add, Nat.one_mul]; exact kk
theorem gH_st_Board_guest (X : GX p l e R s m args below meth c D A nL cc own Ts) {i x : Int32} {k : Nat} (hro : ro = false) (hd : decode cc pc = .ok (.iastore, 1)) (hi : i = nI k) (hk : k < 8) (hp : pc + 1 = pc') (kk : GG p l e R s m args below meth c D A nL ro cs sl Q (wHW D a f (up na 0 (up (na 0) k x)) w) pc' lv st) : GG p l e R s m args below meth c D A nL ro cs sl Q (wHW D a f na w) pc lv (.int x :: .int i :: .ref (a 14) :: st) := by
  obtain ⟨h1, h2⟩ := ix_of hi hk (by decide)
  have e14 : cl 8 0 1 (up (na 0) k x) = upd (cl 8 0 1 (na 0)) k x := by rw [cl_upd (by decide) hk, Nat.zero_add, Nat.one_mul]
  refine g_iast X (wHW D a f (up na 0 (up (na 0) k x)) w) hro hd 12 rfl rfl h1 ?_ hp kk
  rw [h2]
  show _ = wHW D a f (up na 0 (up (na 0) k x)) w
  have e : ∀ j, (up na 0 (up (na 0) k x)) j = if j = 0 then up (na 0) k x else na j := up_e _ _ _
  simp only [wHW, wH, e, if_true, if_false, Nat.reduceEqDiff, e14]
  rfl
theorem gH_ld_Board_door (X : GX p l e R s m args below meth c D A nL cc own Ts) {i : Int32} {k : Nat} (hd : decode cc pc = .ok (.iaload, 1)) (hi : i = nI k) (hk : k < 8) (hp : pc + 1 = pc') (kk : GG p l e R s m args below meth c D A nL ro cs sl Q (wHW D a f na w) pc' lv (.int (na 1 k) :: st)) : GG p l e R s m args below meth c D A nL ro cs sl Q (wHW D a f na w) pc lv (.int i :: .ref (a 15) :: st) := by
  obtain ⟨h1, h2⟩ := ix_of hi hk (by decide)
  refine g_iald X hd 13 rfl rfl h1 hp ?_
  rw [h2, cl_in hk]
  rw [Nat.zero_add, Nat.one_mul]; exact kk
theorem gH_st_Board_door (X : GX p l e R s m args below meth c D A nL cc own Ts) {i x : Int32} {k : Nat} (hro : ro = false) (hd : decode cc pc = .ok (.iastore, 1)) (hi : i = nI k) (hk : k < 8) (hp : pc + 1 = pc') (kk : GG p l e R s m args below meth c D A nL ro cs sl Q (wHW D a f (up na 1 (up (na 1) k x)) w) pc' lv st) : GG p l e R s m args below meth c D A nL ro cs sl Q (wHW D a f na w) pc lv (.int x :: .int i :: .ref (a 15) :: st) := by
  obtain ⟨h1, h2⟩ := ix_of hi hk (by decide)
  have e15 : cl 8 0 1 (up (na 1) k x) = upd (cl 8 0 1 (na 1)) k x := by rw [cl_upd (by decide) hk, Nat.zero_add, Nat.one_mul]
  refine g_iast X (wHW D a f (up na 1 (up (na 1) k x)) w) hro hd 13 rfl rfl h1 ?_ hp kk
  rw [h2]
  show _ = wHW D a f (up na 1 (up (na 1) k x)) w
  have e : ∀ j, (up na 1 (up (na 1) k x)) j = if j = 1 then up (na 1) k x else na j := up_e _ _ _
  simp only [wHW, wH, e, if_true, if_false, Nat.reduceEqDiff, e15]
  rfl
theorem gH_ld_Board_need (X : GX p l e R s m args below meth c D A nL cc own Ts) {i : Int32} {k : Nat} (hd : decode cc pc = .ok (.iaload, 1)) (hi : i = nI k) (hk : k < 8) (hp : pc + 1 = pc') (kk : GG p l e R s m args below meth c D A nL ro cs sl Q (wHW D a f na w) pc' lv (.int (na 2 k) :: st)) : GG p l e R s m args below meth c D A nL ro cs sl Q (wHW D a f na w) pc lv (.int i :: .ref (a 16) :: st) := by
  obtain ⟨h1, h2⟩ := ix_of hi hk (by decide)
  refine g_iald X hd 14 rfl rfl h1 hp ?_
  rw [h2, cl_in hk]
  rw [Nat.zero_add, Nat.one_mul]; exact kk
theorem gH_st_Board_need (X : GX p l e R s m args below meth c D A nL cc own Ts) {i x : Int32} {k : Nat} (hro : ro = false) (hd : decode cc pc = .ok (.iastore, 1)) (hi : i = nI k) (hk : k < 8) (hp : pc + 1 = pc') (kk : GG p l e R s m args below meth c D A nL ro cs sl Q (wHW D a f (up na 2 (up (na 2) k x)) w) pc' lv st) : GG p l e R s m args below meth c D A nL ro cs sl Q (wHW D a f na w) pc lv (.int x :: .int i :: .ref (a 16) :: st) := by
  obtain ⟨h1, h2⟩ := ix_of hi hk (by decide)
  have e16 : cl 8 0 1 (up (na 2) k x) = upd (cl 8 0 1 (na 2)) k x := by rw [cl_upd (by decide) hk, Nat.zero_add, Nat.one_mul]
  refine g_iast X (wHW D a f (up na 2 (up (na 2) k x)) w) hro hd 14 rfl rfl h1 ?_ hp kk
  rw [h2]
  show _ = wHW D a f (up na 2 (up (na 2) k x)) w
  have e : ∀ j, (up na 2 (up (na 2) k x)) j = if j = 2 then up (na 2) k x else na j := up_e _ _ _
  simp only [wHW, wH, e, if_true, if_false, Nat.reduceEqDiff, e16]
  rfl
theorem gH_ld_Board_page (X : GX p l e R s m args below meth c D A nL cc own Ts) {i : Int32} {k : Nat} (hd : decode cc pc = .ok (.iaload, 1)) (hi : i = nI k) (hk : k < 8) (hp : pc + 1 = pc') (kk : GG p l e R s m args below meth c D A nL ro cs sl Q (wHW D a f na w) pc' lv (.int (na 3 k) :: st)) : GG p l e R s m args below meth c D A nL ro cs sl Q (wHW D a f na w) pc lv (.int i :: .ref (a 17) :: st) := by
  obtain ⟨h1, h2⟩ := ix_of hi hk (by decide)
  refine g_iald X hd 15 rfl rfl h1 hp ?_
  rw [h2, cl_in hk]
  rw [Nat.zero_add, Nat.one_mul]; exact kk
theorem gH_st_Board_page (X : GX p l e R s m args below meth c D A nL cc own Ts) {i x : Int32} {k : Nat} (hro : ro = false) (hd : decode cc pc = .ok (.iastore, 1)) (hi : i = nI k) (hk : k < 8) (hp : pc + 1 = pc') (kk : GG p l e R s m args below meth c D A nL ro cs sl Q (wHW D a f (up na 3 (up (na 3) k x)) w) pc' lv st) : GG p l e R s m args below meth c D A nL ro cs sl Q (wHW D a f na w) pc lv (.int x :: .int i :: .ref (a 17) :: st) := by
  obtain ⟨h1, h2⟩ := ix_of hi hk (by decide)
  have e17 : cl 8 0 1 (up (na 3) k x) = upd (cl 8 0 1 (na 3)) k x := by rw [cl_upd (by decide) hk, Nat.zero_add, Nat.one_mul]
  refine g_iast X (wHW D a f (up na 3 (up (na 3) k x)) w) hro hd 15 rfl rfl h1 ?_ hp kk
  rw [h2]
  show _ = wHW D a f (up na 3 (up (na 3) k x)) w
  have e : ∀ j, (up na 3 (up (na 3) k x)) j = if j = 3 then up (na 3) k x else na j := up_e _ _ _
  simp only [wHW, wH, e, if_true, if_false, Nat.reduceEqDiff, e17]
  rfl
end HROWS
