/-! ===== the pure state: a flat row f of 407 numbers (0 settings, 4 owners, 16 doors, 76 stamps' number, 77 inside, 78 came, 79 helped, 80 steps, 81 wiped, 82 dropped, 83 ended, 90 notes' number, 91 notes, 127 stamps) ===== -/
def ofM (f : Nat → Int32) (s w : Nat) : Int32 := f (127 + w + 7 * s)
def rtM (f : Nat → Int32) (s : Nat) : Nat := (ofM f s 4).toNatClampNeg
def noteM (f : Nat → Int32) (n w : Nat) : Int32 := f (91 + w + 4 * n)
/-- a stamp's own row is in order (made: how many there are) -/
def stOK (f : Nat → Int32) (s : Nat) : Prop :=
  (∃ p : Nat, p < 12 ∧ ofM f s 0 = nI p) ∧ (∃ g : Nat, g < 6 ∧ ofM f s 1 = nI g) ∧ (∃ h : Nat, h < 6 ∧ ofM f s 2 = nI h) ∧ (∃ r : Nat, r < 8 ∧ ofM f s 3 = nI r) ∧
  (ofM f s 4 = -6 ∨ ∃ r : Nat, r < s ∧ ofM f s 4 = nI r) ∧ (∃ b : Bool, ofM f s 5 = b2i b) ∧ (∃ b : Bool, ofM f s 6 = b2i b)
def noOK (f : Nat → Int32) (k : Nat) : Prop := (∃ g : Nat, g < 6 ∧ noteM f k 0 = nI g) ∧ (∃ d : Nat, d < 10 ∧ noteM f k 1 = nI d)
/-- the flags of stamps that are not made are 0 -/
def ZF (f : Nat → Int32) (mk : Nat) : Prop := ∀ s, mk ≤ s → s < 40 → f (127 + 5 + 7 * s) = 0 ∧ f (127 + 6 + 7 * s) = 0
/-- made stamps, notes, the board's room -/
def WF (f : Nat → Int32) (mk n b : Nat) : Prop :=
  f 76 = nI mk ∧ mk ≤ 40 ∧ f 90 = nI n ∧ f 0 = nI b ∧ 1 ≤ b ∧ b ≤ 8 ∧ n ≤ b ∧
  (∀ s, s < mk → stOK f s) ∧ (∀ k, k < n → noOK f k) ∧ (∀ p, p < 12 → f (4 + p) = -6 ∨ ∃ g : Nat, g < 6 ∧ f (4 + p) = nI g) ∧ (∀ k, k < 60 → f (16 + k) = -6 ∨ ∃ s : Nat, s < mk ∧ f (16 + k) = nI s) ∧
  (f 1 = 0 ∨ f 1 = 1) ∧ (f 2 = 0 ∨ f 2 = 1 ∨ f 2 = 2) ∧ (f 3 = 0 ∨ f 3 = 1) ∧ ZF f mk
/-- of its root, or of the owner of its page -/
def basedM (f : Nat → Int32) (s : Nat) : Bool :=
  if ofM f s 4 < 0 then decide (ofM f s 1 = f (4 + (ofM f s 0).toNatClampNeg))
  else decide (ofM f (rtM f s) 0 = ofM f s 0) && (decide (ofM f (rtM f s) 2 = ofM f s 1) && (decide (¬ ofM f (rtM f s) 3 &&& 4 = 0) && decide (ofM f (rtM f s) 3 &&& ofM f s 3 = ofM f s 3)))
def gdStep (f : Nat → Int32) (g : Nat → Bool) (s : Nat) : Bool := decide (ofM f s 5 = 0) && (decide (ofM f s 6 = 0) && (basedM f s && (decide (ofM f s 4 < 0) || g (rtM f s))))
def gdI (f : Nat → Int32) : Nat → Nat → Bool
  | 0, _ => false
  | n + 1, k => if k = n then gdStep f (gdI f n) n else gdI f n k
/-- good -/
def gd (f : Nat → Int32) (s : Nat) : Bool := gdI f (s + 1) s
theorem gdI_out (f : Nat → Int32) : ∀ (n k : Nat), n ≤ k → gdI f n k = false
  | 0, _, _ => rfl
  | n + 1, k, h => by rw [gdI, if_neg (by omega)]; exact gdI_out f n k (by omega)
theorem gdI_in (f : Nat → Int32) : ∀ (n k : Nat), k < n → gdI f n k = gd f k
  | 0, k, h => absurd h (Nat.not_lt_zero k)
  | n + 1, k, h => by
    by_cases hk : k = n
    · subst hk; rfl
    · rw [gdI, if_neg hk]; exact gdI_in f n k (by omega)
theorem gd_eq (f : Nat → Int32) (s : Nat) : gd f s = gdStep f (gdI f s) s := by rw [gd, gdI, if_pos rfl]
theorem gd_step {f : Nat → Int32} {s : Nat} (h : ofM f s 4 < 0 ∨ rtM f s < s) : gd f s = gdStep f (gd f) s := by
  rw [gd_eq]
  unfold gdStep
  rcases h with h | h
  · simp [h]
  · rw [gdI_in f s _ h]
theorem nIm {n : Nat} (h : n < 2 ^ 31) : ¬ nI n < 0 := nI_pos h
theorem neg6 : (-6 : Int32) < 0 := by decide
/-! ===== what the reference's loops reckon ===== -/
def fgI (f g : Nat → Int32) (i : Nat) : Nat → Int32 := fun k => if k < i then b2i (gd f k) else g k
theorem fgI_0 (f g : Nat → Int32) : fgI f g 0 = g := by funext k; simp [fgI]
theorem fgI_s {f g : Nat → Int32} {i : Nat} {x : Int32} (h : x = b2i (gd f i)) : up (fgI f g i) i x = fgI f g (i + 1) := by
  funext k
  rw [up_e]
  unfold fgI
  by_cases hk : k = i
  · subst hk; simp [h]
  · by_cases h2 : k < i
    · rw [if_neg hk, if_pos h2, if_pos (by omega)]
    · rw [if_neg hk, if_neg h2, if_neg (by omega)]
theorem fgI_lt {f g : Nat → Int32} {i k : Nat} (h : k < i) : fgI f g i k = b2i (gd f k) := if_pos h
def cpI (g h : Nat → Int32) (i : Nat) : Nat → Int32 := fun k => if k < i then g k else h k
theorem cpI_0 (g h : Nat → Int32) : cpI g h 0 = h := by funext k; simp [cpI]
theorem cpI_s {g h : Nat → Int32} {i : Nat} : up (cpI g h i) i (g i) = cpI g h (i + 1) := by
  funext k
  rw [up_e]
  unfold cpI
  by_cases hk : k = i
  · subst hk; simp
  · by_cases h2 : k < i
    · rw [if_neg hk, if_pos h2, if_pos (by omega)]
    · rw [if_neg hk, if_neg h2, if_neg (by omega)]
/-- the reason at a stamp -/
def rsnAt (f : Nat → Int32) (q : Nat) (fst : Bool) (g need : Int32) : Int32 :=
  if fst = true ∧ ¬ ofM f q 2 = g then 2 else if ofM f q 5 = 1 then 3 else if ofM f q 6 = 1 then 4 else if fst = true ∧ ofM f q 3 &&& need = 0 then 5 else if basedM f q = true then 0 else 6
/-- a walk from the stamp s on: its reason, its steps -/
def wlkI (f : Nat → Int32) (g need first : Int32) : Nat → Int32 → Int32 → Nat → Int32 × Nat
  | 0, _, r, n => (r, n)
  | k + 1, s, r, n => if ¬ s < 0 ∧ r = 0 then wlkI f g need first k (ofM f s.toNatClampNeg 4) (rsnAt f s.toNatClampNeg (decide (s = first)) g need) (n + 1) else (r, n)
def ledM (f : Nat → Int32) (g d : Nat) : Int32 := f (16 + (10 * g + d))
def wlk (f : Nat → Int32) (g d : Nat) (need : Int32) : Int32 × Nat := wlkI f (nI g) need (ledM f g d) 41 (ledM f g d) (if ledM f g d < 0 then 1 else 0) 0
/-- a note taken off the board -/
def tkI (f : Nat → Int32) (nn n j : Nat) : Nat → Int32 := fun m => if m = 90 then nI (nn - 1) else if 91 + 4 * n ≤ m ∧ m < j then f (m + 4) else f m
def tkF (f : Nat → Int32) (nn n : Nat) : Nat → Int32 := tkI f nn n (91 + 4 * (nn - 1))
theorem tkI_0 (f : Nat → Int32) (nn n : Nat) : up f 90 (nI (nn - 1)) = tkI f nn n (91 + 4 * n) := by
  funext m
  rw [up_e]
  unfold tkI
  by_cases h : m = 90
  · rw [if_pos h, if_pos h]
  · rw [if_neg h, if_neg h, if_neg (by omega)]
theorem tkI_s {f : Nat → Int32} {nn n j : Nat} (h : 91 + 4 * n ≤ j) : up (tkI f nn n j) j (f (j + 4)) = tkI f nn n (j + 1) := by
  funext m
  rw [up_e]
  unfold tkI
  by_cases hm : m = j
  · subst hm; rw [if_pos rfl, if_neg (by omega), if_pos (by omega)]
  · rw [if_neg hm]
    by_cases h9 : m = 90
    · rw [if_pos h9, if_pos h9]
    · rw [if_neg h9, if_neg h9]
      by_cases h2 : 91 + 4 * n ≤ m ∧ m < j
      · rw [if_pos h2, if_pos (by omega)]
      · rw [if_neg h2, if_neg (by omega)]
theorem tkI_hi {f : Nat → Int32} {nn n j m : Nat} (h : 91 + 4 * n ≤ j) (h2 : j ≤ m) : tkI f nn n j m = f m := by
  unfold tkI
  rw [if_neg (by omega), if_neg (by omega)]
theorem tkI_90 {f : Nat → Int32} {nn n j : Nat} : tkI f nn n j 90 = nI (nn - 1) := by simp [tkI]
theorem tkI_lo {f : Nat → Int32} {nn n j m : Nat} (h : m < 90 ∨ (90 < m ∧ m < 91 + 4 * n)) : tkI f nn n j m = f m := by
  unfold tkI
  rw [if_neg (by omega), if_neg (by omega)]
theorem tkF_90 {f : Nat → Int32} {nn n : Nat} : tkF f nn n 90 = nI (nn - 1) := tkI_90
theorem tkF_lo {f : Nat → Int32} {nn n m : Nat} (h : m < 90 ∨ (90 < m ∧ m < 91 + 4 * n)) : tkF f nn n m = f m := tkI_lo h
theorem tkF_no {f : Nat → Int32} {nn n k w : Nat} (h : k < n) (hw : w < 4) : noteM (tkF f nn n) k w = noteM f k w := tkF_lo (Or.inr (by omega))
/-- a note put at its end -/
def pnF (f : Nat → Int32) (nn : Nat) (g d e p : Int32) : Nat → Int32 := up (up (up (up (up f (91 + (4 * nn)) g) (91 + (4 * nn) + 1) d) (91 + (4 * nn) + 2) e) (91 + (4 * nn) + 3) p) 90 (nI (nn + 1))
def fndI (P : Nat → Bool) : Nat → Nat → Int32
  | 0, _ => -6
  | k + 1, i => if P i = true then nI i else fndI P k (i + 1)
def isNote (f : Nat → Int32) (g d e : Int32) (k : Nat) : Bool := decide (noteM f k 0 = g) && (decide (noteM f k 1 = d) && decide (noteM f k 2 = e))
/-- the first ones dropped -/
def drI : Nat → (Nat → Int32) → Nat → Nat → Nat → Int32
  | 0, f, _, _ => f
  | k + 1, f, nn, b => if b < nn then drI k (up (tkF f nn 0) 82 (f 82 + 1)) (nn - 1) b else f
def wpF (f : Nat → Int32) : Nat → Int32 := up (up f 90 0) 81 (f 81 + f 90)
/-- notes wiped from the last on -/
def wkI (P : Nat → Bool) : Nat → (Nat → Int32) → Nat → Nat → (Nat → Int32) × Nat × Nat
  | 0, f, nn, c => (f, nn, c)
  | j + 1, f, nn, c => if P j = true then wkI P j (tkF f nn j) (nn - 1) (c + 1) else wkI P j f nn c
def wkF (P : Nat → Bool) (f : Nat → Int32) (nn : Nat) : Nat → Int32 := up (wkI P nn f nn 0).1 81 ((wkI P nn f nn 0).1 81 + nI (wkI P nn f nn 0).2.2)
def wkN (P : Nat → Bool) (f : Nat → Int32) (nn : Nat) : Int32 := nI (wkI P nn f nn 0).2.2
def ofDoor (f : Nat → Int32) (g d : Int32) (k : Nat) : Bool := decide (noteM f k 0 = g) && decide (noteM f k 1 = d)
def ledBy (f : Nat → Int32) (q : Nat) : Int32 := ledM f (noteM f q 0).toNatClampNeg (noteM f q 1).toNatClampNeg
def goesM (f fg fw : Nat → Int32) (x : Int32) (q : Nat) : Bool :=
  if f 2 = 0 then true else if f 2 = 1 then decide (noteM f q 3 = x)
  else decide (¬ ledBy f q < 0) && (decide (¬ fw (ledBy f q).toNatClampNeg = 0) && decide (fg (ledBy f q).toNatClampNeg = 0))
/-- the state kept at a place of the ring -/
def kpF (f g : Nat → Int32) (pl : Nat) : Nat → Int32 := fun m => if 407 * pl ≤ m ∧ m < 407 * pl + 407 then f (m - 407 * pl) else g m
def kpI (f g : Nat → Int32) (pl i : Nat) : Nat → Int32 := fun m => if 407 * pl ≤ m ∧ m < 407 * pl + i then f (m - 407 * pl) else g m
theorem kpI_0 (f g : Nat → Int32) (pl : Nat) : kpI f g pl 0 = g := by funext m; unfold kpI; rw [if_neg (by omega)]
theorem kpI_s {f g : Nat → Int32} {pl i : Nat} : up (kpI f g pl i) (407 * pl + i) (f i) = kpI f g pl (i + 1) := by
  funext m
  rw [up_e]
  unfold kpI
  by_cases hm : m = 407 * pl + i
  · subst hm; rw [if_pos rfl, if_pos (by omega)]; congr 1; omega
  · rw [if_neg hm]
    by_cases h2 : 407 * pl ≤ m ∧ m < 407 * pl + i
    · rw [if_pos h2, if_pos (by omega)]
    · rw [if_neg h2, if_neg (by omega)]
theorem iinc_m1 (x : Int32) : x + Int32.ofInt (-1) = x - 1 := by rw [Int32.sub_eq_add_neg]; rfl
def kpA (i m : Nat) : Nat := if m = 6 then (i + 1) % 6 else i
def kpB (m : Nat) : Nat := if m = 6 then 5 else m
theorem kpA_lt {i m : Nat} (h : i < 6) : kpA i m < 6 := by unfold kpA; split <;> omega
theorem kpB_lt {m : Nat} (h : m ≤ 6) : kpB m < 6 := by unfold kpB; split <;> omega
theorem goesM_c {f1 fa fg fw : Nat → Int32} {x : Int32} {q : Nat} (hlo : ∀ m, m < 90 → f1 m = fa m) (hn : ∀ w, w < 4 → noteM f1 q w = noteM fa q w) (hok : noOK fa q) : goesM f1 fg fw x q = goesM fa fg fw x q := by
  obtain ⟨⟨g, hg, eg⟩, ⟨d, hd, ed⟩⟩ := hok
  have hl : ledBy f1 q = ledBy fa q := by
    unfold ledBy ledM
    rw [hn 0 (by omega), hn 1 (by omega), eg, ed, nI_clamp (by omega), nI_clamp (by omega)]
    exact hlo _ (by omega)
  unfold goesM
  rw [hl, hlo 2 (by omega), hn 3 (by omega)]
theorem noOK_c {f1 fa : Nat → Int32} {q : Nat} (hn : ∀ w, w < 4 → noteM f1 q w = noteM fa q w) (hok : noOK fa q) : noOK f1 q := by
  unfold noOK
  rw [hn 0 (by omega), hn 1 (by omega)]
  exact hok
/-! ===== what is kept ===== -/
def kF (b : Bool) (f g : Nat → Int32) (i k : Nat) : Nat → Int32 := if b = true then kpF f g ((kpA i k + kpB k) % 6) else g
def kA (b : Bool) (i k : Nat) : Nat := if b = true then kpA i k else i
def kM (b : Bool) (k : Nat) : Nat := if b = true then kpB k + 1 else k
theorem kA_lt {b : Bool} {i k : Nat} (h : i < 6) : kA b i k < 6 := by unfold kA; split; exact kpA_lt h; exact h
theorem kM_le {b : Bool} {k : Nat} (h : k ≤ 6) : kM b k ≤ 6 := by unfold kM; split; exact kpB_lt h; exact h
