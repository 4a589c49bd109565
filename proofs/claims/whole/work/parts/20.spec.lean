/-! ===== the pure state: a flat row f of 407 numbers (0 settings, 4 owners, 16 doors, 76 stamps' number, 77 inside, 78 came, 79 helped, 80 steps, 81 wiped, 82 dropped, 83 ended, 90 notes' number, 91 notes, 127 stamps) ===== -/
def ofM (f : Nat → Int32) (s w : Nat) : Int32 := f (127 + w + 7 * s)
def rtM (f : Nat → Int32) (s : Nat) : Nat := (ofM f s 4).toNatClampNeg
def noteM (f : Nat → Int32) (n w : Nat) : Int32 := f (91 + w + 4 * n)
/-- a stamp's own row is in order (made: how many there are) -/
def stOK (f : Nat → Int32) (s : Nat) : Prop :=
  (∃ p : Nat, p < 12 ∧ ofM f s 0 = nI p) ∧ (∃ g : Nat, g < 6 ∧ ofM f s 1 = nI g) ∧ (∃ h : Nat, h < 6 ∧ ofM f s 2 = nI h) ∧ (∃ r : Nat, r < 8 ∧ ofM f s 3 = nI r) ∧
  (ofM f s 4 = -6 ∨ ∃ r : Nat, r < s ∧ ofM f s 4 = nI r) ∧ (∃ b : Bool, ofM f s 5 = b2i b) ∧ (∃ b : Bool, ofM f s 6 = b2i b)
def noOK (f : Nat → Int32) (k : Nat) : Prop := (∃ g : Nat, g < 6 ∧ noteM f k 0 = nI g) ∧ (∃ d : Nat, d < 10 ∧ noteM f k 1 = nI d)
/-- made stamps, notes, the board's room -/
def WF (f : Nat → Int32) (mk n b : Nat) : Prop :=
  f 76 = nI mk ∧ mk ≤ 40 ∧ f 90 = nI n ∧ f 0 = nI b ∧ 1 ≤ b ∧ b ≤ 8 ∧ n ≤ b ∧
  (∀ s, s < mk → stOK f s) ∧ (∀ k, k < n → noOK f k) ∧ (∀ p, p < 12 → f (4 + p) = -6 ∨ ∃ g : Nat, g < 6 ∧ f (4 + p) = nI g) ∧ (∀ k, k < 60 → f (16 + k) = -6 ∨ ∃ s : Nat, s < mk ∧ f (16 + k) = nI s) ∧
  (f 1 = 0 ∨ f 1 = 1) ∧ (f 2 = 0 ∨ f 2 = 1 ∨ f 2 = 2) ∧ (f 3 = 0 ∨ f 3 = 1)
/-- of its root, or of the owner of its page -/
def basedM (f : Nat → Int32) (s : Nat) : Bool :=
  if ofM f s 4 < 0 then decide (ofM f s 1 = f (4 + (ofM f s 0).toNatClampNeg))
  else decide (ofM f (rtM f s) 0 = ofM f s 0) && (decide (ofM f (rtM f s) 2 = ofM f s 1) && (decide (¬ ofM f (rtM f s) 3 &&& 4 = 0) && decide (ofM f (rtM f s) 3 &&& ofM f s 3 = ofM f s 3)))
def gdStep (f : Nat → Int32) (g : Nat → Bool) (s : Nat) : Bool := decide (ofM f s 5 = 0) && (decide (ofM f s 6 = 0) && (basedM f s && (decide (ofM f s 4 < 0) || g (rtM f s))))
def gdI (f : Nat → Int32) : Nat → Nat → Bool
  | 0, _ => false
  | n + 1, k => if k = n then gdStep f (gdI f n) n else gdI f n k
/-- good -/
def gd (f : Nat → Int32) (s : Nat) : Bool := gdI f (s + 1) s
theorem gdI_out (f : Nat → Int32) : ∀ (n k : Nat), n ≤ k → gdI f n k = false
  | 0, _, _ => rfl
  | n + 1, k, h => by rw [gdI, if_neg (by omega)]; exact gdI_out f n k (by omega)
theorem gdI_in (f : Nat → Int32) : ∀ (n k : Nat), k < n → gdI f n k = gd f k
  | 0, k, h => absurd h (Nat.not_lt_zero k)
  | n + 1, k, h => by
    by_cases hk : k = n
    · subst hk; rfl
    · rw [gdI, if_neg hk]; exact gdI_in f n k (by omega)
theorem gd_eq (f : Nat → Int32) (s : Nat) : gd f s = gdStep f (gdI f s) s := by rw [gd, gdI, if_pos rfl]
theorem gd_step {f : Nat → Int32} {s : Nat} (h : ofM f s 4 < 0 ∨ rtM f s < s) : gd f s = gdStep f (gd f) s := by
  rw [gd_eq]
  unfold gdStep
  rcases h with h | h
  · simp [h]
  · rw [gdI_in f s _ h]
theorem nIm {n : Nat} (h : n < 2 ^ 31) : ¬ nI n < 0 := nI_pos h
theorem neg6 : (-6 : Int32) < 0 := by decide
