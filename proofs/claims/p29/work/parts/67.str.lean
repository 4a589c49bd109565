section GSTR
variable {p : Program} {l : Launch} {e : Env} {R : Room} {s : State} {m : MethodId} {args : Array Value} {below : List Frame} {meth : Method} {c : Code} {D : DT} {A : Nat → Prop} {nL : Nat} {ro : Bool} {cs sl : Nat} {Q : State → Prop} {cc : ByteArray} {own : String} {Ts : List Cond} {ws : va_W} {lv : List (Nat × Value)} {st : List Value} {pc pc' : Nat}
theorem g_ldcS (X : GX p l e R s m args below meth c D A nL cc own Ts) {index i : Nat} (hd : decode cc pc = .ok (.ldc index, 2)) (ho : own = RX3) (hi : i < 7) (hx0 : index = 73 + 2 * i) (hp : pc + 2 = pc') (kk : GG p l e R s m args below meth c D A nL ro cs sl Q ws pc' lv (.ref (D.2.2.2.2.2.1 i) :: st)) : GG p l e R s m args below meth c D A nL ro cs sl Q ws pc lv st := by
  subst hp
  obtain ⟨hx, hb, hml, hown, hts, hlk, hE⟩ := X
  intro H locs ls hro hP hD hS hl
  subst ho; subst hx0
  exact va_ldcS hx hb hown (hE.2.2.2.2.2.2.2.2.2 i hi) hd (kk H locs ls hro hP hD hS hl)
theorem g_sval (X : GX p l e R s m args below meth c D A nL cc own Ts) {index i : Nat} (hd : decode cc pc = .ok (.getfield index, 3)) (hlink : Cond.fieldLink own index "java/lang/String" "value" "[B" ∈ Ts) (hi : i < 7) (hp : pc + 3 = pc') (kk : GG p l e R s m args below meth c D A nL ro cs sl Q ws pc' lv (.ref (D.2.2.2.2.2.2 i) :: st)) : GG p l e R s m args below meth c D A nL ro cs sl Q ws pc lv (.ref (D.2.2.2.2.2.1 i) :: st) := by
  subst hp
  obtain ⟨hx, hb, hml, hown, hts, hlk, hE⟩ := X
  intro H locs ls hro hP hD hS hl
  exact vk_getf hx hb (hE.2.2.2.2.2.2.2.2.1.1 i hi).2.2.1 hS hown (hts _ hlink) (fun x h => h) hd (kk H locs ls hro hP hD hS hl)
theorem g_scod (X : GX p l e R s m args below meth c D A nL cc own Ts) {index i : Nat} (hd : decode cc pc = .ok (.getfield index, 3)) (hlink : Cond.fieldLink own index "java/lang/String" "coder" "B" ∈ Ts) (hi : i < 7) (hp : pc + 3 = pc') (kk : GG p l e R s m args below meth c D A nL ro cs sl Q ws pc' lv (.int 0 :: st)) : GG p l e R s m args below meth c D A nL ro cs sl Q ws pc lv (.ref (D.2.2.2.2.2.1 i) :: st) := by
  subst hp
  obtain ⟨hx, hb, hml, hown, hts, hlk, hE⟩ := X
  intro H locs ls hro hP hD hS hl
  exact vk_getf hx hb (hE.2.2.2.2.2.2.2.2.1.1 i hi).2.1 hS hown (hts _ hlink) (fun x h => h) hd (kk H locs ls hro hP hD hS hl)
theorem g_slen (X : GX p l e R s m args below meth c D A nL cc own Ts) {i : Nat} (hd : decode cc pc = .ok (.arraylength, 1)) (hi : i < 7) (hp : pc + 1 = pc') (kk : GG p l e R s m args below meth c D A nL ro cs sl Q ws pc' lv (.int (nI (lenS.getD i 0)) :: st)) : GG p l e R s m args below meth c D A nL ro cs sl Q ws pc lv (.ref (D.2.2.2.2.2.2 i) :: st) := by
  subst hp
  obtain ⟨hx, hb, hml, hown, hts, hlk, hE⟩ := X
  intro H locs ls hro hP hD hS hl
  exact va_tlen hx hb (hE.2.2.2.2.2.2.2.2.1.1 i hi).2.2.2 hS rfl hd (kk H locs ls hro hP hD hS hl)
theorem g_sbal (X : GX p l e R s m args below meth c D A nL cc own Ts) {i k : Nat} {x : Int32} (hd : decode cc pc = .ok (.baload, 1)) (hi : i < 7) (hx0 : x = nI k) (hk : k < lenS.getD i 0) (hk2 : k < 2 ^ 31) (hl7 : lenS.getD i 0 < 2 ^ 31) (hp : pc + 1 = pc') (kk : GG p l e R s m args below meth c D A nL ro cs sl Q ws pc' lv (.int ((bytS.getD i []).getD k 0) :: st)) : GG p l e R s m args below meth c D A nL ro cs sl Q ws pc lv (.int x :: .ref (D.2.2.2.2.2.2 i) :: st) := by
  subst hp
  obtain ⟨hx, hb, hml, hown, hts, hlk, hE⟩ := X
  intro H locs ls hro hP hD hS hl
  obtain ⟨h1, h2⟩ := ix_of hx0 hk hl7
  exact va_tb hx hb (hE.2.2.2.2.2.2.2.2.1.1 i hi).2.2.2 hS h1 (by rw [h2]) hd (kk H locs ls hro hP hD hS hl)
theorem GX.cstr (X : GX p l e R s m args below meth c D A nL cc own Ts) : va_Z "java/lang/String" "COMPACT_STRINGS" "Z" (.int 1) A s s.heap := X.2.2.2.2.2.2.2.2.2.2.2.2.1
theorem GX.fmt (X : GX p l e R s m args below meth c D A nL cc own Ts) : va_Z "jdk/internal/util/Preconditions" "SIOOBE_FORMATTER" "Ljava/util/function/BiFunction;" .null A s s.heap ∨ ∃ t : Nat, va_Z "jdk/internal/util/Preconditions" "SIOOBE_FORMATTER" "Ljava/util/function/BiFunction;" (.ref t) A s s.heap := X.2.2.2.2.2.2.2.2.2.2.2.2.2.1
theorem g_callSt (X : GX p l e R s m args below meth c D A nL cc own Ts) {y : MethodName} {wsy wsy' : List Cond} {bytes : ByteArray} {maxL fr lo n index : Nat} {wc : va_W} {As rest : List Value} {ret : Option FieldType} {b : Nat} {C : String} {post : Option Value → Prop} (hM : MR l y wsy fr lo D (.ref b :: As) wc post) (hG : GoodIn Ts (wsV own index C y wsy)) (hw : wsy = Cond.code y bytes maxL ret :: wsy') (hdsc : y.cls = C ∧ y.cls ≠ "java/lang/invoke/MethodHandle" ∧ y.cls ≠ "java/lang/invoke/VarHandle" ∧ (parseMethodDescriptor y.desc).map (fun d => d.parameters.length) = some n) (hR : fr + 1 ≤ R.frames ∧ 8 + (maxL + 11) + lo ≤ R.locals) (i0 : Nat) (hi0 : i0 < 7) (hb0 : b = D.2.2.2.2.2.1 i0) (hC0 : C = "java/lang/String") (isC : List Nat) (hC : isC.map (fun i => ws[i]?) = wc.map some) (hnd : va_nd isC = true) (hn : As.length = n) (hst : st = As.reverse ++ .ref b :: rest) (hcat : (rest.map fun v => v.category).sum ≤ 8) (hd : decode cc pc = .ok (.invokevirtual index, 3)) (hroom : cs ≤ R.cells ∧ sl ≤ R.slots) (hp : pc + 3 = pc') (kk : ∀ v : Option Value, post v → GG p l e R s m args below meth c D A nL ro cs sl Q ws pc' lv (v.toList ++ rest)) : GG p l e R s m args below meth c D A nL ro cs sl Q ws pc lv st := by
  subst hp; subst hst
  obtain ⟨hx, hb, hml, hown, hts, hlk, hE⟩ := X
  intro H locs ls hro hP hD hS hl
  have hPc : va_P D.1 vwCl wc H := by
    intro k q hk
    have h3 : (isC.map (fun i => ws[i]?))[k]? = some (some q) := by rw [hC, List.getElem?_map, hk]; rfl
    rw [List.getElem?_map] at h3
    cases hi : isC[k]? with
    | none => rw [hi] at h3; cases h3
    | some i => rw [hi] at h3; exact hP i q (Option.some.inj h3)
  have hDc : va_D A wc := hD.sub isC hnd hC
  have hr : va_Run p l e R s m args below meth c H locs cs sl 0 0 (F0 m pc ls (As.reverse ++ .ref b :: rest)) rest ((roQ post) ((Value.ref b :: As)).toArray) (fun _ => False) := va_runV ⟨hx, hb, hml, hown, hts⟩ (hM A) (cwV n hts hG hw rfl rfl hdsc hR) ⟨roP_blind, (by rw [hb0, hC0]; exact vk_recv hE.2.2.2.2.2.2.2.2.1 hi0 hS), fun U hU hW => ⟨rfl, by rw [hU]; exact hPc, hDc, hE.call hS (fun q h => h) hU hW⟩⟩ rfl hn hl.1 rfl (lv_room hcat) hd hroom
  intro T hT X
  obtain ⟨v, st₀, t, T', L, e0, X', hL, e1, e2, ⟨v', hv, hp, hh⟩, stp⟩ := hr T hT X
  cases hv
  obtain ⟨t2, a1, b1⟩ := kk v hp H locs ls hro hP hD hS hl T' (by rw [e1, hh, e0]) (Stand.forget X' (fun q h => (hL q h).elim))
  exact ⟨t2, stp t2 a1, b1⟩
end GSTR
/-! ===== the shapes ===== -/
def shI (kd : Int32) : Nat := if kd = 63 then 5 else if kd = 100 then 4 else if kd = 111 then 0 else if kd = 112 then 2 else if kd = 115 then 1 else if kd = 116 then 3 else 6
theorem shI_lt (kd : Int32) : shI kd < 7 := by
  unfold shI
  split
  · omega
  · split
    · omega
    · split
      · omega
      · split
        · omega
        · split
          · omega
          · split <;> omega
def shN (i : Nat) : Nat := lenS.getD i 0
def shC (i k : Nat) : Int32 := (bytS.getD i []).getD k 0
theorem shN_lt : ∀ i, i < 7 → lenS.getD i 0 ≤ 7 := by decide
theorem sh_shr : ∀ i, i < 7 → nI (lenS.getD i 0) >>> ((0 : Int32) &&& 31) = nI (lenS.getD i 0) := by decide +kernel
theorem sh_c : ∀ i, i < 7 → ∀ k, k < 7 → k < lenS.getD i 0 → (((shC i k) &&& 255).toUInt32 % 65536).toInt32 = shC i k ∧ narrow .char (.int (shC i k)) = .int (shC i k) := by decide +kernel
/-- the parts of an order from one place of its shape on -/
def yLoop (td : Nat → Int32) (L i : Nat) : Nat → Nat → Y3 → Bool × Y3
  | 0, _, y => (true, y)
  | n + 1, k, y => if L ≤ y.1 then (false, y) else if (yPart td L (shC i k) y).1 = true then yLoop td L i n (k + 1) (yPart td L (shC i k) y).2 else (false, (yPart td L (shC i k) y).2)
def yOrder (td : Nat → Int32) (L pt : Nat) (fl : Nat) (vl : Nat → Int32) : Bool × Y3 :=
  if L ≤ pt then (false, (pt, fl, vl)) else if shN (shI (td pt)) = 0 then (false, (pt, fl, vl)) else yLoop td L (shI (td pt)) (shN (shI (td pt))) 0 (pt + 1, 0, vl)

