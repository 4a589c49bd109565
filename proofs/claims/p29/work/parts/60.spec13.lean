theorem en_w {f : Nat → Int32} {n : Nat} {g : Int32} (hn : f 90 = nI n) (h8 : n ≤ 8) (h1 : ¬ f 77 = g) (h2 : f 1 = 0) : ∀ m, m < 91 ∨ 127 ≤ m → up (wkF (fun _ => true) f n) 77 g m = enF f g m := by
  intro m hm
  unfold enF
  rw [if_neg h1, if_pos h2, up_e]
  by_cases h77 : m = 77
  · subst h77
    rw [if_pos rfl]
    unfold wpF
    rw [up_n _ _ (by omega), up_n _ _ (by omega), up_s]
  · rw [if_neg h77, wipe_w0 hn h8 m hm]
    unfold wpF
    rw [up_n f _ (by omega : 81 ≠ 77), up_n f _ (by omega : 90 ≠ 77)]
    simp only [up_e, h77, if_false]
theorem en_s {f : Nat → Int32} {g : Int32} (h1 : f 77 = g) : up f 77 g = enF f g := by
  unfold enF
  rw [if_pos h1]
  funext m
  rw [up_e]
  by_cases h : m = 77
  · subst h; rw [if_pos rfl, h1]
  · rw [if_neg h]
theorem en_n {f : Nat → Int32} {g : Int32} (h1 : ¬ f 77 = g) (h2 : ¬ f 1 = 0) : up f 77 g = enF f g := by unfold enF; rw [if_neg h1, if_neg h2]
theorem en_cm (f : Nat → Int32) (g : Int32) : up (enF f g) 78 (enF f g 78 + 1) = cmF f g := by
  have e78 : enF f g 78 = f 78 := by
    unfold enF wpF
    split
    · rfl
    · split
      · rw [up_n _ _ (by omega), up_n _ _ (by omega), up_n _ _ (by omega)]
      · rw [up_n _ _ (by omega)]
  rw [e78]
  unfold cmF enF
  rw [up_n f _ (by omega : 77 ≠ 78), up_n f _ (by omega : 1 ≠ 78)]
  split
  · rfl
  · split
    · unfold wpF
      funext m
      rw [up_n _ _ (by omega : 81 ≠ 77), up_n _ _ (by omega : 90 ≠ 77), up_n _ _ (by omega : 81 ≠ 77), up_n _ _ (by omega : 90 ≠ 77), up_n _ _ (by omega : 81 ≠ 78), up_n _ _ (by omega : 90 ≠ 78)]
      simp only [up_e]
      by_cases h1 : m = 78
      · subst h1; rfl
      · rw [if_neg h1, if_neg h1]
    · exact up_cm f _ _ (by omega)
theorem wp_90 (f : Nat → Int32) : wpF f 90 = nI 0 := by unfold wpF; rw [up_n _ _ (by omega), up_s]; rfl
theorem NR_0 (f : Nat → Int32) (na : Nat → Nat → Int32) : NR f na 0 := fun k hk => absurd hk (Nat.not_lt_zero k)
/-- what entering leaves -/
def enPost (D : DT) (a : Nat → Nat) (f : Nat → Int32) (g : Int32) (w : Nat → Int32) : Option Value → va_W → Prop := fun v w2 =>
  v = none ∧ ∃ (nb : Nat → Nat → Int32) (n' : Nat), w2 = wHW D a (enF f g) nb w ∧ NR (enF f g) nb n' ∧ enF f g 90 = nI n' ∧ n' ≤ 8
theorem enPost_wk {D : DT} {a : Nat → Nat} {f : Nat → Int32} {g : Int32} {n : Nat} {w : Nat → Int32} {nb : Nat → Nat → Int32} (hn : f 90 = nI n) (h8 : n ≤ 8) (h1 : ¬ f 77 = g) (h2 : f 1 = 0) : enPost D a f g w none (wHW D a (up (wkF (fun _ => true) f n) 77 g) nb w) := by
  refine ⟨rfl, nb, 0, wHW_c (en_w hn h8 h1 h2), NR_0 _ _, ?_, by omega⟩
  unfold enF
  rw [if_neg h1, if_pos h2]
  exact wp_90 _
theorem enPost_up {D : DT} {a : Nat → Nat} {f : Nat → Int32} {g : Int32} {n : Nat} {w : Nat → Int32} {na : Nat → Nat → Int32} (hn : f 90 = nI n) (h8 : n ≤ 8) (hN : NR f na n) (h : up f 77 g = enF f g) : enPost D a f g w none (wHW D a (up f 77 g) na w) := by
  refine ⟨rfl, na, n, wHW_f h, ?_, ?_, h8⟩
  · rw [← h]; exact NR_up hN (by omega) (by omega)
  · rw [← h, up_n _ _ (by omega)]; exact hn
theorem see_eq {f : Nat → Int32} {n q : Nat} (h : f 3 = 1) : pnF (tkF (seF f) n q) (n - 1) (noteM (seF f) q 0) (noteM (seF f) q 1) (noteM (seF f) q 2) (noteM (seF f) q 3) = seeF f n q := by
  unfold seeF
  rw [if_pos h]
  have e : ∀ w, noteM (seF f) q w = noteM f q w := fun w => by
    unfold noteM seF
    rw [up_n _ _ (by omega), up_n _ _ (by omega), up_n _ _ (by omega)]
  rw [e, e, e, e]
theorem see_90 {f : Nat → Int32} {n q : Nat} (hn : f 90 = nI n) (hq : q < n) : seeF f n q 90 = nI n := by
  unfold seeF
  split
  · unfold pnF; rw [up_s]; congr 1; omega
  · unfold seF; rw [up_n _ _ (by omega), up_n _ _ (by omega), up_n _ _ (by omega)]; exact hn
def lastNote (f : Nat → Int32) (n : Nat) (g d e p : Int32) (t w : Nat) : Int32 := if t = n then (if w = 0 then g else if w = 1 then d else if w = 2 then e else p) else noteM f t w
theorem pn_no {f : Nat → Int32} {n : Nat} {g d e p : Int32} (t w : Nat) (hw : w < 4) : noteM (pnF f n g d e p) t w = lastNote f n g d e p t w := by
  unfold lastNote noteM pnF
  rw [up_n _ _ (by omega)]
  by_cases hkn : t = n
  · subst hkn
    rw [if_pos rfl]
    rcases (show w = 0 ∨ w = 1 ∨ w = 2 ∨ w = 3 by omega) with rfl | rfl | rfl | rfl
    · rw [up_n _ _ (by omega), up_n _ _ (by omega), up_n _ _ (by omega), show 91 + 0 + 4 * t = 91 + 4 * t from by omega, up_s]; rfl
    · rw [up_n _ _ (by omega), up_n _ _ (by omega), show 91 + 1 + 4 * t = 91 + 4 * t + 1 from by omega, up_s]; rfl
    · rw [up_n _ _ (by omega), show 91 + 2 + 4 * t = 91 + 4 * t + 2 from by omega, up_s]; rfl
    · rw [show 91 + 3 + 4 * t = 91 + 4 * t + 3 from by omega, up_s]; rfl
  · rw [if_neg hkn, up_n _ _ (by omega), up_n _ _ (by omega), up_n _ _ (by omega), up_n _ _ (by omega)]
theorem pn_90 {f : Nat → Int32} {n : Nat} {g d e p : Int32} : pnF f n g d e p 90 = nI (n + 1) := up_s _ _ _
theorem pn_lo {f : Nat → Int32} {n m : Nat} {g d e p : Int32} (h8 : n < 9) (h : m < 90 ∨ 127 ≤ m) : pnF f n g d e p m = f m := by
  unfold pnF
  rw [up_n _ _ (by omega), up_n _ _ (by omega), up_n _ _ (by omega), up_n _ _ (by omega), up_n _ _ (by omega)]
theorem add_w {f : Nat → Int32} {n b : Nat} {g d e p : Int32} (hn : f 90 = nI n) (h8 : n ≤ 8) (hb : 1 ≤ b) : ∀ m, m < 91 ∨ 127 ≤ m → pnF (drI n f n (b - 1)) (min n (b - 1)) g d e p m = drI (n + 1) (pnF f n g d e p) (n + 1) b m := by
  obtain ⟨h1, h2, h3, -⟩ := drI_o (b - 1) n f n (Nat.le_refl _) (by omega) hn
  obtain ⟨k1, k2, k3, -⟩ := drI_o b (n + 1) (pnF f n g d e p) (n + 1) (Nat.le_refl _) (by omega) pn_90
  intro m hm
  by_cases h90 : m = 90
  · subst h90; rw [pn_90, k2]; congr 1; omega
  · rw [pn_lo (by omega) (by omega)]
    by_cases h82 : m = 82
    · subst h82; rw [h3, k3, pn_lo (by omega) (by omega)]; congr 2; omega
    · rw [h1 m (by omega), k1 m (by omega), pn_lo (by omega) (by omega)]
theorem add_NR {f : Nat → Int32} {n b : Nat} {g d e p : Int32} {nb : Nat → Nat → Int32} (hn : f 90 = nI n) (h8 : n ≤ 8) (hb : 1 ≤ b) (hN : NR (pnF (drI n f n (b - 1)) (min n (b - 1)) g d e p) nb (min n (b - 1) + 1)) : NR (drI (n + 1) (pnF f n g d e p) (n + 1) b) nb (min (n + 1) b) := by
  obtain ⟨-, -, -, h4⟩ := drI_o (b - 1) n f n (Nat.le_refl _) (by omega) hn
  obtain ⟨-, -, -, k4⟩ := drI_o b (n + 1) (pnF f n g d e p) (n + 1) (Nat.le_refl _) (by omega) pn_90
  intro t ht j hj
  rw [hN t (by omega) j hj, k4 t j hj (by omega), pn_no _ _ hj, pn_no _ _ hj]
  unfold lastNote
  by_cases h : t = min n (b - 1)
  · have e2 : t + (n + 1 - b) = n := by omega
    rw [if_pos h, if_pos e2]
  · have e2 : ¬ t + (n + 1 - b) = n := by omega
    rw [if_neg h, if_neg e2, h4 t j hj (by omega)]
    congr 1
    omega
theorem add_90 {f : Nat → Int32} {n b : Nat} {g d e p : Int32} (h8 : n ≤ 8) : drI (n + 1) (pnF f n g d e p) (n + 1) b 90 = nI (min (n + 1) b) :=
  (drI_o b (n + 1) (pnF f n g d e p) (n + 1) (Nat.le_refl _) (by omega) pn_90).2.1
theorem nI_inj8 {j k : Nat} (hj : j ≤ 8) (hk : k ≤ 8) (h : nI j = nI k) : j = k := by
  have h2 := congrArg Int32.toInt h
  rw [nI_toInt (by omega), nI_toInt (by omega)] at h2
  omega
theorem fnd_n {P : Nat → Bool} {n : Nat} (h8 : n ≤ 8) (h : rng n (fndI P n 0) = false) : ¬ (0 : Int32) ≤ fndI P n 0 := by
  intro z
  obtain ⟨j, hj, e⟩ := fndI_in n 0 (Int32.not_lt.mpr z)
  rw [e, rng_nI' (by omega) (by omega)] at h
  exact absurd h (by decide)
theorem wr_e {f : Nat → Int32} {r : Int32} {k rr m : Nat} (er : r = nI rr) (hr : rr < 7) (h : m < 80 ∨ 90 ≤ m) : wrF f r k m = f m := by
  unfold wrF
  rw [er, nI_clamp (by omega), up_n _ _ (by omega), up_n _ _ (by omega)]
