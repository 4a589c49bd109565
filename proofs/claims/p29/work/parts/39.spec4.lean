/-! ===== texts ===== -/
def nx (fd : Nat → Int32) (L s : Nat) : Int32 := if s < L then fd s else 0
def inB (x lo hi : Int32) : Bool := decide (lo.toInt ≤ x.toInt ∧ x.toInt ≤ hi.toInt)
def dgB (x : Int32) : Bool := inB x 48 57
/-- spot, whether wrong, the numbers' row -/
def tSign (fd : Nat → Int32) (L : Nat) (c : Int32) (s : Nat) (w : Bool) : Nat × Bool := if w = true ∨ ¬ nx fd L s = c then (s, true) else (s + 1, false)
def tOne (fd : Nat → Int32) (L o pl : Nat) (lo hi : Int32) (s : Nat) (w : Bool) (g : Nat → Int32) : Nat × Bool × (Nat → Int32) :=
  if w = true ∨ inB (nx fd L s) lo hi = false then (s, true, g) else (s + 1, false, up g (4 * o + pl) (nx fd L s - 48))
def tNum (fd : Nat → Int32) (L o pl : Nat) (s : Nat) (w : Bool) (g : Nat → Int32) : Nat × Bool × (Nat → Int32) :=
  if w = true ∨ dgB (nx fd L s) = false then (s, true, g)
  else if nx fd L s = 48 ∨ dgB (nx fd L (s + 1)) = false then (s + 1, false, up g (4 * o + pl) (nx fd L s - 48))
  else (s + 2, dgB (nx fd L (s + 2)), up g (4 * o + pl) (10 * (nx fd L s - 48) + nx fd L (s + 1) - 48))
/-- whether "-" is taken -/
def tNoB (fd : Nat → Int32) (L s : Nat) (w : Bool) : Bool := !w && decide (nx fd L s = 45)
def tNo (fd : Nat → Int32) (L o pl : Nat) (s : Nat) (w : Bool) (g : Nat → Int32) : Nat × (Nat → Int32) := if tNoB fd L s w = true then (s + 1, up g (4 * o + pl) (-6)) else (s, g)
def tNeed (fd : Nat → Int32) (L o : Nat) (s : Nat) (w : Bool) (g : Nat → Int32) : Nat × Bool × (Nat → Int32) :=
  if w = true ∨ (¬ nx fd L s = 114 ∧ ¬ nx fd L s = 119) then (s, true, g) else (s + 1, false, up g (4 * o + 2) (if nx fd L s = 114 then 1 else 2))
abbrev P3 : Type := Nat × Bool × (Nat → Int32)
def qSign (fd : Nat → Int32) (L : Nat) (c : Int32) (x : P3) : P3 := ((tSign fd L c x.1 x.2.1).1, (tSign fd L c x.1 x.2.1).2, x.2.2)
def qOne (fd : Nat → Int32) (L o pl : Nat) (lo hi : Int32) (x : P3) : P3 := tOne fd L o pl lo hi x.1 x.2.1 x.2.2
def qNum (fd : Nat → Int32) (L o pl : Nat) (x : P3) : P3 := tNum fd L o pl x.1 x.2.1 x.2.2
def qNeed (fd : Nat → Int32) (L o : Nat) (x : P3) : P3 := tNeed fd L o x.1 x.2.1 x.2.2
def qNo (fd : Nat → Int32) (L o pl : Nat) (x : P3) : P3 := ((tNo fd L o pl x.1 x.2.1 x.2.2).1, x.2.1, (tNo fd L o pl x.1 x.2.1 x.2.2).2)
def qNoOr (fd : Nat → Int32) (L o pl : Nat) (r : P3 → P3) (x : P3) : P3 := if tNoB fd L x.1 x.2.1 = true then qNo fd L o pl x else r (qNo fd L o pl x)
def qGD (fd : Nat → Int32) (L o : Nat) (x : P3) : P3 := qOne fd L o 1 48 57 (qSign fd L 46 (qOne fd L o 0 48 53 x))
def qRights (fd : Nat → Int32) (L o pl : Nat) (x : P3) : P3 := qOne fd L o pl 49 55 (qSign fd L 42 x)
def qGiving (fd : Nat → Int32) (L o : Nat) (x : P3) : P3 := qRights fd L o 3 (qNum fd L o 2 (qSign fd L 58 (qOne fd L o 1 48 53 (qSign fd L 62 (qOne fd L o 0 48 53 x)))))
def qBehind (fd : Nat → Int32) (L o : Nat) (c : Int32) (x : P3) : P3 :=
  if c = 111 then qNoOr fd L o 1 (qOne fd L o 1 48 53) (qSign fd L 61 (qNum fd L o 0 x))
  else if c = 115 then qGiving fd L o x
  else if c = 112 then qRights fd L o 2 (qOne fd L o 1 48 53 (qSign fd L 62 (qNum fd L o 0 x)))
  else if c = 116 then qNum fd L o 0 x
  else if c = 100 then qNoOr fd L o 2 (qNum fd L o 2) (qSign fd L 61 (qGD fd L o x))
  else qNeed fd L o (qGD fd L o x)
theorem inB_nI {x : Int32} {lo hi : Nat} (h : inB x (nI lo) (nI hi) = true) (h2 : hi < 2 ^ 31) (h3 : lo ≤ hi) : ∃ k : Nat, lo ≤ k ∧ k ≤ hi ∧ x = nI k := by
  obtain ⟨h4, h5⟩ := of_decide_eq_true h
  rw [nI_toInt (by omega)] at h4
  rw [nI_toInt (by omega)] at h5
  obtain ⟨k, hk, e⟩ := rng_nI (n := hi + 1) (x := x) (decide_eq_true ⟨by omega, by omega⟩)
  subst e
  rw [nI_toInt (by omega)] at h4
  exact ⟨k, by omega, by omega, rfl⟩
theorem dg_nI {x : Int32} (h : dgB x = true) : ∃ k : Nat, k ≤ 9 ∧ x = nI (48 + k) := by
  obtain ⟨k, h1, h2, e⟩ := inB_nI (lo := 48) (hi := 57) h (by omega) (by omega)
  exact ⟨k - 48, by omega, by rw [e]; congr 1; omega⟩
theorem dg_v {k : Nat} : nI (48 + k) - 48 = nI k := by
  have := pk_sub (a := 48 + k) (b := 48) (by omega)
  rw [show 48 + k - 48 = k from by omega] at this
  exact this
theorem dg_w {j k : Nat} : (10 : Int32) * (nI (48 + j) - 48) + nI (48 + k) - 48 = nI (10 * j + k) := by
  rw [dg_v, show (10 : Int32) = nI 10 from rfl, pk_mul, nI_add]
  have := pk_sub (a := 10 * j + (48 + k)) (b := 48) (by omega)
  rw [show 10 * j + (48 + k) - 48 = 10 * j + k from by omega] at this
  exact this
theorem nx_lt {fd : Nat → Int32} {L s : Nat} (h : ¬ nx fd L s = 0) : s < L := by
  rcases Nat.lt_or_ge s L with q | q
  · exact q
  · exact absurd (by unfold nx; rw [if_neg (by omega)]) h
theorem nx_dg {fd : Nat → Int32} {L s : Nat} (h : dgB (nx fd L s) = true) : s < L := nx_lt (fun z => by rw [z] at h; exact absurd h (by decide))
theorem dg_le {x y : Int32} (hx : dgB x = true) (hy : dgB y = true) : 10 * (x - 48) + y - 48 ≤ 99 := by
  obtain ⟨j, h1, rfl⟩ := dg_nI hx
  obtain ⟨k, h2, rfl⟩ := dg_nI hy
  rw [dg_w]
  exact nI_le (b := 99) (by omega) (by omega)
theorem dg_pos {x y : Int32} (hx : dgB x = true) (hp : ¬ x - 48 ≤ 0) (hy : dgB y = true) : ¬ 10 * (x - 48) + y - 48 ≤ 0 := by
  obtain ⟨j, h1, rfl⟩ := dg_nI hx
  obtain ⟨k, h2, rfl⟩ := dg_nI hy
  rw [dg_v] at hp
  have : 0 < j := by
    rcases Nat.eq_zero_or_pos j with q | q
    · subst q; exact absurd (by decide) hp
    · exact q
  rw [dg_w]
  exact nI_nle (by omega) (by omega)
theorem dg_big {x y t : Int32} (hx : dgB x = true) (hp : ¬ x - 48 ≤ 0) (hy : dgB y = true) (ht : dgB t = true) : ¬ 10 * (10 * (x - 48) + y - 48) + t - 48 ≤ 99 := by
  obtain ⟨j, h1, rfl⟩ := dg_nI hx
  obtain ⟨k, h2, rfl⟩ := dg_nI hy
  obtain ⟨i, h3, rfl⟩ := dg_nI ht
  rw [dg_v] at hp
  have : 0 < j := by
    rcases Nat.eq_zero_or_pos j with q | q
    · subst q; exact absurd (by decide) hp
    · exact q
  have e : (10 : Int32) * (10 * (nI (48 + j) - 48) + nI (48 + k) - 48) + nI (48 + i) - 48 = nI (10 * (10 * j + k) + i) := by
    rw [dg_w, show (10 : Int32) = nI 10 from rfl, pk_mul, nI_add]
    have := pk_sub (a := 10 * (10 * j + k) + (48 + i)) (b := 48) (by omega)
    rw [show 10 * (10 * j + k) + (48 + i) - 48 = 10 * (10 * j + k) + i from by omega] at this
    exact this
  rw [e]
  intro z
  have := (nI_leI (a := 10 * (10 * j + k) + i) (b := 99) (by omega) (by omega)).mp z
  omega
theorem dg_48 {x : Int32} (hx : dgB x = true) (h : x - 48 ≤ 0) : x = 48 := by
  obtain ⟨j, h1, rfl⟩ := dg_nI hx
  rw [dg_v] at h
  have : j = 0 := by
    rcases Nat.eq_zero_or_pos j with q | q
    · exact q
    · exact absurd h (nI_nle q (by omega))
  subst this
  rfl
theorem dg_n48 {x : Int32} (h : ¬ x - 48 ≤ 0) : ¬ x = 48 := fun z => h (by rw [z]; decide)
