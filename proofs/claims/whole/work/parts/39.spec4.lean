/-! ===== texts ===== -/
def nx (fd : Nat → Int32) (L s : Nat) : Int32 := if s < L then fd s else 0
def inB (x lo hi : Int32) : Bool := decide (lo.toInt ≤ x.toInt ∧ x.toInt ≤ hi.toInt)
def dgB (x : Int32) : Bool := inB x 48 57
/-- spot, whether wrong, the numbers' row -/
def tSign (fd : Nat → Int32) (L : Nat) (c : Int32) (s : Nat) (w : Bool) : Nat × Bool := if w = true ∨ ¬ nx fd L s = c then (s, true) else (s + 1, false)
def tOne (fd : Nat → Int32) (L o pl : Nat) (lo hi : Int32) (s : Nat) (w : Bool) (g : Nat → Int32) : Nat × Bool × (Nat → Int32) :=
  if w = true ∨ inB (nx fd L s) lo hi = false then (s, true, g) else (s + 1, false, up g (4 * o + pl) (nx fd L s - 48))
def tNum (fd : Nat → Int32) (L o pl : Nat) (s : Nat) (w : Bool) (g : Nat → Int32) : Nat × Bool × (Nat → Int32) :=
  if w = true ∨ dgB (nx fd L s) = false then (s, true, g)
  else if nx fd L s = 48 ∨ dgB (nx fd L (s + 1)) = false then (s + 1, false, up g (4 * o + pl) (nx fd L s - 48))
  else (s + 2, dgB (nx fd L (s + 2)), up g (4 * o + pl) (10 * (nx fd L s - 48) + nx fd L (s + 1) - 48))
/-- whether "-" is taken -/
def tNoB (fd : Nat → Int32) (L s : Nat) (w : Bool) : Bool := !w && decide (nx fd L s = 45)
def tNo (fd : Nat → Int32) (L o pl : Nat) (s : Nat) (w : Bool) (g : Nat → Int32) : Nat × (Nat → Int32) := if tNoB fd L s w = true then (s + 1, up g (4 * o + pl) (-6)) else (s, g)
def tNeed (fd : Nat → Int32) (L o : Nat) (s : Nat) (w : Bool) (g : Nat → Int32) : Nat × Bool × (Nat → Int32) :=
  if w = true ∨ (¬ nx fd L s = 114 ∧ ¬ nx fd L s = 119) then (s, true, g) else (s + 1, false, up g (4 * o + 2) (if nx fd L s = 114 then 1 else 2))
