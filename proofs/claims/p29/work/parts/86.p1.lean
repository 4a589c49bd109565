/-! ===== what the law reads of the object ===== -/
theorem nI_div {a b : Nat} (ha : a < 2 ^ 31) (hb : b < 2 ^ 31) : nI a / nI b = nI (a / b) := (Int32.ofNat_div ha hb).symm
theorem nI_rem {a b : Nat} (ha : a < 2 ^ 31) (hb : b < 2 ^ 31) : nI a - nI a / nI b * nI b = nI (a % b) := by
  rw [nI_div ha hb, pk_mul, pk_sub (Nat.div_mul_le_self a b)]
  congr 1
  have h := Nat.div_add_mod a b
  rw [Nat.mul_comm] at h
  omega
/-- an arbitrary number below m -/
def upN (v : Int32) (m : Nat) : Nat := v.toBitVec.toNat % 2 ^ 31 % m
theorem upN_lt {v : Int32} {m : Nat} (h : 0 < m) : upN v m < m := Nat.mod_lt _ h
theorem mask_nn (v : Int32) : v &&& 2147483647 = nI (v.toBitVec.toNat % 2 ^ 31) := by
  apply Int32.toBitVec_inj.mp
  rw [Int32.toBitVec_and]
  apply BitVec.eq_of_toNat_eq
  rw [BitVec.toNat_and]
  show v.toBitVec.toNat &&& (BitVec.ofNat 32 2147483647).toNat = (BitVec.ofNat 32 (v.toBitVec.toNat % 2 ^ 31)).toNat
  rw [BitVec.toNat_ofNat, BitVec.toNat_ofNat, show 2147483647 % 2 ^ 32 = 2 ^ 31 - 1 from rfl, Nat.and_two_pow_sub_one_eq_mod]
  omega
theorem up_val {v : Int32} {m : Nat} (h2 : m < 2 ^ 31) : (v &&& 2147483647) - (v &&& 2147483647) / nI m * nI m = nI (upN v m) := by
  rw [mask_nn v]
  exact nI_rem (Nat.mod_lt _ (by decide)) h2
/-- what a script has at a place, or what stands for it beyond its end -/
def cellV (xs : Nat → Int32) (L k : Nat) : Int32 := if k < L then xs k else nI (73244475 * (k + 1619))
theorem oSt {f : Nat → Int32} {mk q : Nat} {w : Int32} (k : Nat) (eN : mkN f = mk) (hq : q < mk) (h40 : mk ≤ 40) (hw : w = nI k) (hk : k < 7) : ofStampS f (nI q) w = ofM f q k := by
  unfold ofStampS
  subst hw
  rw [eN, if_pos (rng_nI' hq (by omega)), if_pos (rng_nI' hk (by omega)), nI_clamp (by omega), nI_clamp (by omega)]
theorem oSt7 {f : Nat → Int32} {mk q : Nat} (eN : mkN f = mk) (hq : q < mk) (h40 : mk ≤ 40) : ofStampS f (nI q) 7 = b2i (gd f q) := by
  unfold ofStampS
  rw [eN, if_pos (rng_nI' hq (by omega)), if_neg (by decide), if_pos rfl, nI_clamp (by omega)]
theorem oSt8 {f : Nat → Int32} {mk q : Nat} (eN : mkN f = mk) (hq : q < mk) (h40 : mk ≤ 40) : ofStampS f (nI q) 8 = nI (chN f (nI q)) := by
  unfold ofStampS
  rw [eN, if_pos (rng_nI' hq (by omega)), if_neg (by decide), if_neg (by decide), if_pos rfl]
theorem oSt9 {f : Nat → Int32} {mk q : Nat} (eN : mkN f = mk) (hq : q < mk) (h40 : mk ≤ 40) : ofStampS f (nI q) 9 = nI (bhN f q mk) := by
  unfold ofStampS
  rw [eN, if_pos (rng_nI' hq (by omega)), if_neg (by decide), if_neg (by decide), if_neg (by decide), if_pos rfl, nI_clamp (by omega)]
theorem oStx {f : Nat → Int32} {mk : Nat} {x w : Int32} (eN : mkN f = mk) (h : rng mk x = false) : ofStampS f x w = -1 := by
  unfold ofStampS
  rw [eN, if_neg (by rw [h]; exact Bool.false_ne_true)]
theorem oPg0 {f : Nat → Int32} {p : Nat} (hp : p < 12) : ofPageS f (nI p) 0 = f (4 + p) := by
  unfold ofPageS
  rw [if_pos (rng_nI' hp (by omega)), if_pos rfl, nI_clamp (by omega)]
theorem oPg1 {f : Nat → Int32} {mk p : Nat} (eN : mkN f = mk) (hp : p < 12) : ofPageS f (nI p) 1 = whI f (gd f) p 1 mk := by
  unfold ofPageS
  rw [if_pos (rng_nI' hp (by omega)), if_neg (by decide), if_pos rfl, nI_clamp (by omega), eN]
theorem oPg2 {f : Nat → Int32} {mk p : Nat} (eN : mkN f = mk) (hp : p < 12) : ofPageS f (nI p) 2 = whI f (gd f) p 2 mk := by
  unfold ofPageS
  rw [if_pos (rng_nI' hp (by omega)), if_neg (by decide), if_neg (by decide), if_pos rfl, nI_clamp (by omega), eN]
theorem oPg3 {f : Nat → Int32} {mk p : Nat} (eN : mkN f = mk) (hp : p < 12) : ofPageS f (nI p) 3 = nI (cnI (fun s => gd f s && decide (ofM f s 0 = nI p)) mk) := by
  unfold ofPageS
  rw [if_pos (rng_nI' hp (by omega)), if_neg (by decide), if_neg (by decide), if_neg (by decide), if_pos rfl, eN]
theorem oLd {f : Nat → Int32} {g d : Nat} (hg : g < 6) (hd : d < 10) : leadsS f (nI g) (nI d) = ledM f g d := by
  unfold leadsS
  rw [rng_nI' hg (by omega), rng_nI' hd (by omega), if_pos (by decide), nI_clamp (by omega), nI_clamp (by omega)]
theorem oNt {f : Nat → Int32} {n k : Nat} {w : Int32} (j : Nat) (eN : nN f = n) (hk : k < n) (h8 : n ≤ 8) (hw : w = nI j) (hj : j < 4) : noteS f (nI k) w = noteM f k j := by
  unfold noteS
  subst hw
  rw [eN, if_pos (rng_nI' hk (by omega)), if_pos (rng_nI' hj (by omega)), nI_clamp (by omega), nI_clamp (by omega)]
theorem oNtx {f : Nat → Int32} {n : Nat} {x w : Int32} (eN : nN f = n) (h : rng n x = false) : noteS f x w = -1 := by
  unfold noteS
  rw [eN, if_neg (by rw [h]; exact Bool.false_ne_true)]
theorem oEn {f : Nat → Int32} {r : Nat} (hr : r < 7) : endedS f (nI r) = f (83 + r) := by
  unfold endedS
  rw [if_pos (rng_nI' hr (by omega)), nI_clamp (by omega)]
theorem oWk0 {f : Nat → Int32} {g d e : Nat} (hg : g < 6) (hd : d < 10) (he : e = 1 ∨ e = 2) : walkS f (nI g) (nI d) (nI e) 0 = (wlk f g d (nI e)).1 := by
  unfold walkS
  rw [rng_nI' hg (by omega), rng_nI' hd (by omega), if_pos (by decide), if_pos ⟨by rcases he with rfl | rfl <;> decide, by decide⟩, if_pos rfl, nI_clamp (by omega), nI_clamp (by omega)]
theorem oWk1 {f : Nat → Int32} {g d e : Nat} (hg : g < 6) (hd : d < 10) (he : e = 1 ∨ e = 2) : walkS f (nI g) (nI d) (nI e) 1 = nI (wlk f g d (nI e)).2 := by
  unfold walkS
  rw [rng_nI' hg (by omega), rng_nI' hd (by omega), if_pos (by decide), if_pos ⟨by rcases he with rfl | rfl <;> decide, by decide⟩, if_neg (by decide), nI_clamp (by omega), nI_clamp (by omega)]
theorem rt_ge : ∀ a, a < 8 → (4 ≤ nI a ↔ ¬ nI a &&& 4 = 0) := by decide +kernel
/-! counts -/
theorem oC0 {f : Nat → Int32} {dm : Int32} {km : Nat} : countS f dm km 0 = f 76 := rfl
theorem oC1 {f : Nat → Int32} {dm : Int32} {km mk : Nat} (eN : mkN f = mk) : countS f dm km 1 = nI (cnI (gd f) mk) := by unfold countS; rw [if_neg (by decide), if_pos rfl, eN]
theorem oC2 {f : Nat → Int32} {dm : Int32} {km : Nat} : countS f dm km 2 = f 90 := rfl
theorem oC3 {f : Nat → Int32} {dm : Int32} {km : Nat} : countS f dm km 3 = f 77 := rfl
theorem oC4 {f : Nat → Int32} {dm : Int32} {km : Nat} : countS f dm km 4 = f 78 := rfl
theorem oC5 {f : Nat → Int32} {dm : Int32} {km : Nat} : countS f dm km 5 = f 79 := rfl
theorem oC6 {f : Nat → Int32} {dm : Int32} {km : Nat} : countS f dm km 6 = f 80 := rfl
theorem oC7 {f : Nat → Int32} {dm : Int32} {km : Nat} : countS f dm km 7 = f 81 := rfl
theorem oC8 {f : Nat → Int32} {dm : Int32} {km : Nat} : countS f dm km 8 = f 82 := rfl
theorem oC9 {f : Nat → Int32} {dm : Int32} {km : Nat} : countS f dm km 9 = f 0 := rfl
theorem oC10 {f : Nat → Int32} {dm : Int32} {km : Nat} : countS f dm km 10 = f 1 := rfl
theorem oC11 {f : Nat → Int32} {dm : Int32} {km : Nat} : countS f dm km 11 = f 2 := rfl
theorem oC12 {f : Nat → Int32} {dm : Int32} {km : Nat} : countS f dm km 12 = f 3 := rfl
theorem oC13 {f : Nat → Int32} {dm : Int32} {km : Nat} : countS f dm km 13 = dm := rfl
theorem oC14 {f : Nat → Int32} {dm : Int32} {km : Nat} : countS f dm km 14 = nI km := rfl
theorem oHd {f : Nat → Int32} {mk q : Nat} (eN : mkN f = mk) (hq : q < mk) (h40 : mk ≤ 40) : hidesS f (nI q) = hidM f q mk := by
  unfold hidesS
  rw [eN, if_pos (rng_nI' hq (by omega)), nI_clamp (by omega)]
theorem g_upn {p : Program} {l : Launch} {e : Env} {R : Room} {s : State} {m : MethodId} {args : Array Value} {below : List Frame} {meth : Method} {c : Code} {D : DT} {A : Nat → Prop} {nL : Nat} {ro : Bool} {cs sl : Nat} {Q : State → Prop} {ws : va_W} {lv : List (Nat × Value)} {st : List Value} {pc : Nat} {v : Int32} {k : Nat} (hk : 0 < k)
    (kk : ∀ u : Nat, u < k → upN v k = u → GG p l e R s m args below meth c D A nL ro cs sl Q ws pc lv (.int (nI u) :: st)) : GG p l e R s m args below meth c D A nL ro cs sl Q ws pc lv (.int (nI (upN v k)) :: st) := kk _ (upN_lt hk) rfl
theorem g_lve {p : Program} {l : Launch} {e : Env} {R : Room} {s : State} {m : MethodId} {args : Array Value} {below : List Frame} {meth : Method} {c : Code} {D : DT} {A : Nat → Prop} {nL : Nat} {ro : Bool} {cs sl : Nat} {Q : State → Prop} {ws : va_W} {lv : List (Nat × Value)} {st : List Value} {pc : Nat} (lv' : List (Nat × Value)) (h : lv = lv')
    (kk : GG p l e R s m args below meth c D A nL ro cs sl Q ws pc lv' st) : GG p l e R s m args below meth c D A nL ro cs sl Q ws pc lv st := h ▸ kk
theorem lg_self (v : Int64) : lg_cmp v v = 0 := by
  unfold lg_cmp
  by_cases h : v > v
  · exact absurd h (Int64.lt_irrefl)
  · rw [if_neg h, if_pos rfl]
