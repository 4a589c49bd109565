/-! ===== stamps, chains, walks, in the law's words ===== -/
theorem gdS {f : Nat → Int32} {mk s : Nat} (hst : ∀ s, s < mk → stOK f s) (hs : s < mk) (h40 : mk ≤ 40) :
    gd f s = (decide (ofM f s 5 = 0) && (decide (ofM f s 6 = 0) && (basedM f s && (decide (ofM f s 4 < 0) || gd f (ofM f s 4).toNatClampNeg)))) := by
  obtain ⟨-, -, -, -, hrt, -, -⟩ := hst s hs
  have h1 : ofM f s 4 < 0 ∨ rtM f s < s := by
    rcases hrt with z | ⟨r, hr, z⟩
    · exact Or.inl (by rw [z]; exact neg6)
    · exact Or.inr (by unfold rtM; rw [z, nI_clamp (by omega)]; exact hr)
  rw [gd_step h1]
  rfl
theorem b2z {b : Bool} : decide (b2i b = 0) = !b := by cases b <;> rfl
theorem ret_bb {b c : Bool} (h : b = c) : some (Value.int (b2i b)) = some (.int (b2i c)) := by rw [h]
theorem ret_x1 {x : Int32} (h : x = 1) : some (Value.int 1) = some (.int x) := by rw [h]
theorem ret_x {x y : Int32} (h : y = x) : some (Value.int y) = some (.int x) := by rw [h]
/-- a walk in one number: its reason and ten times its steps -/
def lwk (f : Nat → Int32) (g d : Nat) (nd : Int32) : Int32 := (wlk f g d nd).1 + nI (10 * (wlk f g d nd).2)
theorem lwk_of {f : Nat → Int32} {g d i r : Nat} {nd : Int32} (h : wlk f g d nd = (nI r, i + 1)) : nI (10 * i + 10 + r) = lwk f g d nd := by
  unfold lwk
  rw [h, nI_add]
  congr 1
  omega
theorem lwk_0 {f : Nat → Int32} {g d i : Nat} {nd : Int32} (h : wlk f g d nd = (0, i)) : nI (10 * i) = lwk f g d nd := by
  unfold lwk
  rw [h, Int32.zero_add]
/-- a chain has a stamp (none: below 0) -/
def inC (f : Nat → Int32) (x : Int32) (s : Nat) : Bool := !decide (x < 0) && isIC f x.toNatClampNeg s
def gW (f : Nat → Int32) (x : Int32) (s : Nat) : Bool := gd f s && !inC f x s
theorem inC_n {f : Nat → Int32} {t s : Nat} (h : t < 2 ^ 31) : inC f (nI t) s = isIC f t s := by
  unfold inC
  rw [decide_eq_false (nI_pos h), nI_clamp h]
  rfl
theorem inC_0 {f : Nat → Int32} {x : Int32} {s : Nat} (h : x < 0) : inC f x s = false := by
  unfold inC
  rw [decide_eq_true h]
  rfl
theorem inC_s {f : Nat → Int32} {x : Int32} {mk r : Nat} (hst : ∀ s, s < mk → stOK f s) (h40 : mk ≤ 40) (hr : r < mk) (hx : x = -1 ∨ ∃ t : Nat, t < mk ∧ x = nI t) :
    inC f x r = (decide (nI r = x) || (decide (¬ ofM f r 4 < 0) && inC f x (ofM f r 4).toNatClampNeg)) := by
  obtain ⟨-, -, -, -, hrt, -, -⟩ := hst r hr
  rcases hx with rfl | ⟨t, ht, rfl⟩
  · rw [inC_0 (by decide), inC_0 (by decide), Bool.and_false, Bool.or_false]
    exact (decide_eq_false (fun z => by have := nI_pos (n := r) (by omega); rw [z] at this; exact this (by decide))).symm
  · rw [inC_n (by omega), inC_n (by omega)]
    by_cases h : r = t
    · subst h
      rw [isIC_q (by omega), decide_eq_true rfl, Bool.true_or]
    · have hne : decide (nI r = nI t) = false := decide_eq_false (fun z => h (nj_eq (by omega) (by omega) z))
      rw [hne, Bool.false_or]
      rcases hrt with z | ⟨q, hq, z⟩
      · rw [z, decide_eq_false (not_not_intro neg6), Bool.false_and]
        rcases Nat.lt_or_ge t r with k | k
        · exact isIC_6 (by omega) k z
        · exact isIC_lo (by omega) (by omega)
      · rw [z, decide_eq_true (nI_pos (by omega)), Bool.true_and, nI_clamp (by omega)]
        rcases Nat.lt_or_ge t r with k | k
        · exact isIC_s hst h40 hr k hq z
        · rw [isIC_lo (by omega) (by omega), isIC_lo (by omega) (by omega)]
/-- good without a stamp: good, and the chain doesn't have it -/
theorem gdW_ic {f : Nat → Int32} {mk q : Nat} (hst : ∀ s, s < mk → stOK f s) (h40 : mk ≤ 40) (hq : q < mk) : ∀ n s, s < n → s < mk → gd (fW f (nI q)) s = (gd f s && !isIC f q s)
  | 0, s, h, _ => absurd h (Nat.not_lt_zero s)
  | n + 1, s, h, hs => by
    have hx : nI q = -6 ∨ ∃ q' : Nat, q' < mk ∧ nI q = nI q' := Or.inr ⟨q, hq, rfl⟩
    rw [gdW_s hx h40 hs (hst s hs), gdS hst hs h40]
    obtain ⟨-, -, -, -, hrt, -, -⟩ := hst s hs
    by_cases hsq : s = q
    · subst hsq
      rw [isIC_q (by omega), decide_eq_false (not_not_intro rfl)]
      simp
    · have hne : decide (¬ nI s = nI q) = true := decide_eq_true (fun z => hsq (nj_eq (by omega) (by omega) z))
      rw [hne, Bool.true_and]
      rcases hrt with z | ⟨r, hr, z⟩
      · have hic : isIC f q s = false := by
          rcases Nat.lt_or_ge q s with k | k
          · exact isIC_6 (by omega) k z
          · exact isIC_lo (by omega) (by omega)
        rw [z, hic, decide_eq_true rfl, decide_eq_true neg6]
        simp
      · have hic : isIC f q s = isIC f q r := by
          rcases Nat.lt_or_ge q s with k | k
          · exact isIC_s hst h40 hs k hr z
          · rw [isIC_lo (by omega) (by omega), isIC_lo (by omega) (by omega)]
        rw [rtM_n z (by omega), z, hic, decide_eq_false (nI_n6 (by omega)), decide_eq_false (nI_pos (by omega)), nI_clamp (by omega), gdW_ic hst h40 hq n r (by omega) (by omega)]
        simp only [Bool.false_or]
        cases decide (ofM f s 5 = 0) <;> cases decide (ofM f s 6 = 0) <;> cases basedM f s <;> rfl
theorem whI_G {f : Nat → Int32} {G G' : Nat → Bool} {p : Nat} {rt : Int32} : ∀ n, (∀ s, s < n → G s = G' s) → whI f G p rt n = whI f G' p rt n
  | 0, _ => rfl
  | n + 1, h => by rw [whI, whI, whI_G n (fun s hs => h s (by omega)), h n (by omega)]
theorem hid_gW {f : Nat → Int32} {mk q p : Nat} (hst : ∀ s, s < mk → stOK f s) (h40 : mk ≤ 40) (hq : q < mk) (ep : ofM f q 0 = nI p) (hp : p < 12) : (whI f (gW f (-1)) p 1 mk &&& (whI f (gW f (nI q)) p 1 mk ^^^ (-1))) = hidM f q mk := by
  unfold hidM
  rw [ep, nI_clamp (by omega), ← fW_q f (by omega), whI_c (f := f) (g := fW f (nI q)) (fun s w hw => fW_of (Or.inr ⟨q, hq, rfl⟩) h40 hw) (fW_lo (Or.inr ⟨q, hq, rfl⟩) h40 (by omega))]
  rw [whI_G (G := gW f (-1)) (G' := gd f) mk (fun s _ => by unfold gW; rw [inC_0 (by decide)]; cases gd f s <;> rfl)]
  rw [whI_G (G := gW f (nI q)) (G' := gd (fW f (nI q))) mk (fun s hs => by unfold gW; rw [inC_n (by omega), gdW_ic hst h40 hq (s + 1) s (by omega) hs])]
theorem wh_all {f : Nat → Int32} {p mk : Nat} {rt : Int32} : whI f (gW f (-1)) p rt mk = whI f (gd f) p rt mk := whI_G mk (fun s _ => by unfold gW; rw [inC_0 (by decide)]; cases gd f s <;> rfl)
/-! the print: numbers folded -/
def fldH (g : Nat → Int32) (h : Int64) : Nat → Int64
  | 0 => h
  | n + 1 => 31 * fldH g h n + (g n).toInt64
def fldG (g : Nat → Nat → Int32) (m : Nat) (h : Int64) : Nat → Int64
  | 0 => h
  | n + 1 => fldH (g n) (fldG g m h n) m
def cntF (f : Nat → Int32) (k : Nat) : Int32 := countS f 0 0 (nI k)
def prX (f : Nat → Int32) (mk n : Nat) : Int64 :=
  fldH (fun r => f (83 + r)) (fldH (cntF f) (fldG (noteM f) 4 (fldG (ledM f) 10 (fldG (ofM f) 7 (fldH (fun p => f (4 + p)) 7 12) mk) 6) n) 13) 7
/-- all that the object shows of itself, in one number -/
def prS (f : Nat → Int32) : Int64 := prX f (mkN f) (nN f)
theorem cnt_lt {f : Nat → Int32} {dm : Int32} {km k : Nat} (h : k < 13) : countS f dm km (nI k) = cntF f k := by
  unfold cntF
  match k, h with
  | 0, _ => rfl
  | 1, _ => rfl
  | 2, _ => rfl
  | 3, _ => rfl
  | 4, _ => rfl
  | 5, _ => rfl
  | 6, _ => rfl
  | 7, _ => rfl
  | 8, _ => rfl
  | 9, _ => rfl
  | 10, _ => rfl
  | 11, _ => rfl
  | 12, _ => rfl
