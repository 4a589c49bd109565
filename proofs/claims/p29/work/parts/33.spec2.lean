/-! ===== what each change does to the flat row, and its answer ===== -/
def mkN (f : Nat → Int32) : Nat := (f 76).toNatClampNeg
def nN (f : Nat → Int32) : Nat := (f 90).toNatClampNeg
def bN (f : Nat → Int32) : Nat := (f 0).toNatClampNeg
def rtOK (r : Int32) : Bool := decide (1 ≤ r.toInt ∧ r.toInt ≤ 7)
/-- a note goes as a page changed hands or a stamp was taken back (f0 before, f1 behind) -/
def goM (f0 f1 : Nat → Int32) (x : Int32) (q : Nat) : Bool := goesM f1 (fun k => b2i (gd f1 k)) (fun k => b2i (gd f0 k)) x q
def wipeS (f0 f1 : Nat → Int32) (x : Int32) (n : Nat) : Int32 × (Nat → Int32) := (wkN (goM f0 f1 x) f1 n, wkF (goM f0 f1 x) f1 n)
def ownS (f : Nat → Int32) (x gu : Int32) : Int32 × (Nat → Int32) :=
  if (rng 12 x && (decide (gu = -6) || rng 6 gu)) = true then
    (if f (4 + x.toNatClampNeg) = gu then (0, f) else wipeS f (up f (4 + x.toNatClampNeg) gu) x (nN f))
  else (-1, f)
def mkF (f : Nat → Int32) (mk : Nat) (gv hd pg rt ro fo : Int32) : Nat → Int32 :=
  up (up (up (up (up (up (up (up f (127 + 7 * mk + 0) pg) (127 + 7 * mk + 1) gv) (127 + 7 * mk + 2) hd) (127 + 7 * mk + 3) rt) (127 + 7 * mk + 4) ro) (127 + 7 * mk + 5) fo) (127 + 7 * mk + 6) 0) 76 (nI (mk + 1))
def stampS (f : Nat → Int32) (gv hd pg rt : Int32) : Int32 × (Nat → Int32) :=
  if (rng 6 gv && (rng 6 hd && rng 12 pg)) = true then
    (if rtOK rt = true then (if mkN f = 40 then (-4, f) else if f (4 + pg.toNatClampNeg) = gv then (nI (mkN f), mkF f (mkN f) gv hd pg rt (-6) 0) else (-5, f)) else (-2, f))
  else (-1, f)
def passS (f : Nat → Int32) (sx hd rt : Int32) : Int32 × (Nat → Int32) :=
  if (rng (mkN f) sx && rng 6 hd) = true then
    (if rtOK rt = true then (if mkN f = 40 then (-4, f)
      else if (gd f sx.toNatClampNeg && (decide (¬ ofM f sx.toNatClampNeg 3 &&& 4 = 0) && decide (ofM f sx.toNatClampNeg 3 &&& rt = rt))) = true then
        (nI (mkN f), mkF f (mkN f) (ofM f sx.toNatClampNeg 2) hd (ofM f sx.toNatClampNeg 0) rt sx 0) else (-5, f)) else (-2, f))
  else (-1, f)
def forgeS (f : Nat → Int32) (gv hd pg rt ro : Int32) : Int32 × (Nat → Int32) :=
  if (rng 6 gv && (rng 6 hd && (rng 12 pg && (decide (ro = -6) || rng (mkN f) ro)))) = true then
    (if rtOK rt = true then (if mkN f = 40 then (-4, f) else (nI (mkN f), mkF f (mkN f) gv hd pg rt ro 1)) else (-2, f))
  else (-1, f)
def takeS (f : Nat → Int32) (sx : Int32) : Int32 × (Nat → Int32) :=
  if rng (mkN f) sx = true then
    (if ofM f sx.toNatClampNeg 6 = 1 then (-5, f) else wipeS f (up f (127 + 7 * sx.toNatClampNeg + 6) 1) (ofM f sx.toNatClampNeg 0) (nN f))
  else (-1, f)
def doorS (f : Nat → Int32) (g d sx : Int32) : Int32 × (Nat → Int32) :=
  if ((rng 6 g && rng 10 d) && (decide (sx = -6) || rng (mkN f) sx)) = true then
    (if ledM f g.toNatClampNeg d.toNatClampNeg = sx then (0, f) else
      (wkN (ofDoor (up f (16 + 10 * g.toNatClampNeg + d.toNatClampNeg) sx) g d) (up f (16 + 10 * g.toNatClampNeg + d.toNatClampNeg) sx) (nN f),
       wkF (ofDoor (up f (16 + 10 * g.toNatClampNeg + d.toNatClampNeg) sx) g d) (up f (16 + 10 * g.toNatClampNeg + d.toNatClampNeg) sx) (nN f)))
  else (-1, f)
def enF (f : Nat → Int32) (g : Int32) : Nat → Int32 := if f 77 = g then f else if f 1 = 0 then wpF (up f 77 g) else up f 77 g
def seF (f : Nat → Int32) : Nat → Int32 := up (up (up f 79 (f 79 + 1)) 80 (f 80 + 1)) 83 (f 83 + 1)
def seeF (f : Nat → Int32) (nn q : Nat) : Nat → Int32 := if f 3 = 1 then pnF (tkF (seF f) nn q) (nn - 1) (noteM f q 0) (noteM f q 1) (noteM f q 2) (noteM f q 3) else seF f
/-- a walk's end reckoned: its steps, its reason -/
def wrF (f : Nat → Int32) (r : Int32) (k : Nat) : Nat → Int32 := up (up f 80 (f 80 + nI k)) (83 + r.toNatClampNeg) (f (83 + r.toNatClampNeg) + 1)
def cmF (f : Nat → Int32) (g : Int32) : Nat → Int32 := enF (up f 78 (f 78 + 1)) g
def comeW (f : Nat → Int32) (g d : Nat) (nd : Int32) : Int32 × (Nat → Int32) :=
  if 0 ≤ fndI (isNote f (nI g) (nI d) nd) (nN f) 0 then (0, seeF f (nN f) (fndI (isNote f (nI g) (nI d) nd) (nN f) 0).toNatClampNeg)
  else ((wlk f g d nd).1, if (wlk f g d nd).1 = 0 then drI (nN f + 1) (pnF (wrF f (wlk f g d nd).1 (wlk f g d nd).2) (nN f) (nI g) (nI d) nd (ofM f (ledM f g d).toNatClampNeg 0)) (nN f + 1) (bN f) else wrF f (wlk f g d nd).1 (wlk f g d nd).2)
def comeS (f : Nat → Int32) (g d nd : Int32) : Int32 × (Nat → Int32) :=
  if (rng 6 g && rng 10 d) = true then (if nd = 1 ∨ nd = 2 then comeW (cmF f g) g.toNatClampNeg d.toNatClampNeg nd else (-2, f)) else (-1, f)
def flushS (f : Nat → Int32) : Int32 × (Nat → Int32) := (f 90, wpF f)
def hiS (x : Int32) : Int32 := if x = 0 then 8 else if x = 2 then 2 else 1
def setS (f : Nat → Int32) (x v : Int32) : Int32 × (Nat → Int32) :=
  if (rng 4 x && decide ((if x = 0 then (1 : Int) else 0) ≤ v.toInt ∧ v.toInt ≤ (hiS x).toInt)) = true then
    (f x.toNatClampNeg, drI (nN f) (up f x.toNatClampNeg v) (nN f) (bN (up f x.toNatClampNeg v)))
  else (-2, f)
theorem nI_ge0 {n : Nat} (h : n < 2 ^ 31) : (0 : Int32) ≤ nI n := nI_pos' h
theorem wkI_c (P : Nat → Bool) : ∀ (j : Nat) (f : Nat → Int32) (n c : Nat), (wkI P j f n c).2.2 ≤ c + j
  | 0, f, n, c => Nat.le_refl _
  | j + 1, f, n, c => by
    rw [wkI]
    split
    · exact Nat.le_trans (wkI_c P j _ _ _) (by omega)
    · exact Nat.le_trans (wkI_c P j _ _ _) (by omega)
theorem wkN_ge {P : Nat → Bool} {f : Nat → Int32} {n : Nat} (h : n ≤ 100) : (0 : Int32) ≤ wkN P f n := by
  have := wkI_c P n f n 0
  exact nI_ge0 (by omega)
theorem wkI_P {P P' : Nat → Bool} : ∀ (j : Nat) (f : Nat → Int32) (n c : Nat), (∀ k, k < j → P k = P' k) → wkI P j f n c = wkI P' j f n c
  | 0, _, _, _, _ => rfl
  | j + 1, f, n, c, h => by
    rw [wkI, wkI, h j (by omega), wkI_P j _ _ _ (fun k hk => h k (by omega)), wkI_P j _ _ _ (fun k hk => h k (by omega))]
theorem wk_P {P P' : Nat → Bool} {f : Nat → Int32} {n : Nat} (h : ∀ k, k < n → P k = P' k) : wkN P f n = wkN P' f n ∧ wkF P f n = wkF P' f n := by
  unfold wkN wkF
  rw [wkI_P n f n 0 h]
  exact ⟨rfl, rfl⟩
theorem goes_goM {f0 f1 g g' w : Nat → Int32} {mk q : Nat} {x : Int32} (hdo : ∀ k, k < 60 → f1 (16 + k) = -6 ∨ ∃ s : Nat, s < mk ∧ f1 (16 + k) = nI s) (h40 : mk ≤ 40) (hok : noOK f1 q) : goesM f1 (fgI f1 g mk) (cpI (fgI f0 g' mk) w mk) x q = goM f0 f1 x q := by
  obtain ⟨⟨gu, hg, eg⟩, ⟨d, hd, ed⟩⟩ := hok
  unfold goM goesM
  have hl : ledBy f1 q = f1 (16 + (10 * gu + d)) := by
    unfold ledBy ledM
    rw [eg, ed, nI_clamp (by omega), nI_clamp (by omega)]
  rcases hdo (10 * gu + d) (by omega) with h | ⟨t, ht, et⟩
  · rw [hl, h]
    simp
  · rw [hl, et, nI_clamp (by omega), fgI_lt ht]
    have : cpI (fgI f0 g' mk) w mk t = b2i (gd f0 t) := by
      unfold cpI
      rw [if_pos ht, fgI_lt ht]
    rw [this]
theorem stOK_c {f1 fa : Nat → Int32} {s : Nat} (h : ∀ w, w < 7 → ofM f1 s w = ofM fa s w) (hok : stOK fa s) : stOK f1 s := by
  unfold stOK
  rw [h 0 (by omega), h 1 (by omega), h 2 (by omega), h 3 (by omega), h 4 (by omega), h 5 (by omega), h 6 (by omega)]
  exact hok
theorem stOK_b6 {fa : Nat → Int32} (s q : Nat) (hok : stOK fa s) : stOK (up fa (127 + 7 * q + 6) 1) s := by
  have h : ∀ w, w < 6 → ofM (up fa (127 + 7 * q + 6) 1) s w = ofM fa s w := fun w hw => up_n _ _ (by omega)
  unfold stOK
  rw [h 0 (by omega), h 1 (by omega), h 2 (by omega), h 3 (by omega), h 4 (by omega), h 5 (by omega)]
  obtain ⟨h0, h1, h2, h3, h4, h5, h6⟩ := hok
  refine ⟨h0, h1, h2, h3, h4, h5, ?_⟩
  by_cases hq : 127 + 6 + 7 * s = 127 + 7 * q + 6
  · exact ⟨true, by unfold ofM; rw [hq, up_s]; rfl⟩
  · obtain ⟨b, hb⟩ := h6
    exact ⟨b, by unfold ofM; rw [up_n _ _ hq]; exact hb⟩
theorem fndI_in {P : Nat → Bool} : ∀ (k i : Nat), ¬ fndI P k i < 0 → ∃ j, j < i + k ∧ fndI P k i = nI j
  | 0, i, h => absurd (by decide : (-6 : Int32) < 0) h
  | k + 1, i, h => by
    rw [fndI] at h ⊢
    split at h
    · rename_i hp; rw [if_pos hp]; exact ⟨i, by omega, rfl⟩
    · rename_i hp
      rw [if_neg hp]
      obtain ⟨j, h1, h2⟩ := fndI_in k (i + 1) h
      exact ⟨j, by omega, h2⟩
theorem cmF_keep (f : Nat → Int32) (g : Int32) {m : Nat} (h : m ≠ 78) (h2 : m ≠ 77) (h3 : m ≠ 90) (h4 : m ≠ 81) : cmF f g m = f m := by
  unfold cmF enF wpF
  split
  · exact up_n _ _ h
  · split
    · rw [up_n _ _ h4, up_n _ _ h3, up_n _ _ h2, up_n _ _ h]
    · rw [up_n _ _ h2, up_n _ _ h]
theorem cmF_ok {f : Nat → Int32} {mk nn b : Nat} (hW : WF f mk nn b) (g : Int32) : ∃ n2, cmF f g 90 = nI n2 ∧ n2 ≤ nn ∧ cmF f g 76 = nI mk ∧ cmF f g 0 = nI b ∧ (∀ s, s < mk → stOK (cmF f g) s) ∧ (∀ k, k < 60 → cmF f g (16 + k) = -6 ∨ ∃ s : Nat, s < mk ∧ cmF f g (16 + k) = nI s) := by
  obtain ⟨hmk, h40, hnn, hb0, hb1, hb8, hnb, hst, hnk, how, hdo, hs1, hs2, hs3, hZF⟩ := hW
  have h90 : ∃ n2, cmF f g 90 = nI n2 ∧ n2 ≤ nn := by
    unfold cmF enF wpF
    split
    · exact ⟨nn, by rw [up_n _ _ (by omega)]; exact hnn, Nat.le_refl _⟩
    · split
      · exact ⟨0, by rw [up_n _ _ (by omega), up_s]; rfl, Nat.zero_le _⟩
      · exact ⟨nn, by rw [up_n _ _ (by omega), up_n _ _ (by omega)]; exact hnn, Nat.le_refl _⟩
  obtain ⟨n2, h1, h2⟩ := h90
  refine ⟨n2, h1, h2, ?_, ?_, fun s hs => stOK_c (fun w hw => cmF_keep f g (by omega) (by omega) (by omega) (by omega)) (hst s hs), fun k hk => ?_⟩
  · rw [cmF_keep f g (by omega) (by omega) (by omega) (by omega)]; exact hmk
  · rw [cmF_keep f g (by omega) (by omega) (by omega) (by omega)]; exact hb0
  · rw [cmF_keep f g (by omega) (by omega) (by omega) (by omega)]; exact hdo k hk
theorem rsnAt_le (f : Nat → Int32) (q : Nat) (b : Bool) (g nd : Int32) : ∃ r : Nat, r < 7 ∧ rsnAt f q b g nd = nI r := by
  unfold rsnAt
  split
  · exact ⟨2, by omega, rfl⟩
  · split
    · exact ⟨3, by omega, rfl⟩
    · split
      · exact ⟨4, by omega, rfl⟩
      · split
        · exact ⟨5, by omega, rfl⟩
        · split
          · exact ⟨0, by omega, rfl⟩
          · exact ⟨6, by omega, rfl⟩
theorem wlkI_le (f : Nat → Int32) (g nd first : Int32) : ∀ (n : Nat) (s r : Int32) (k : Nat), (∃ q : Nat, q < 7 ∧ r = nI q) → (∃ q : Nat, q < 7 ∧ (wlkI f g nd first n s r k).1 = nI q) ∧ (wlkI f g nd first n s r k).2 ≤ k + n
  | 0, s, r, k, h => ⟨h, Nat.le_refl _⟩
  | n + 1, s, r, k, h => by
    rw [wlkI]
    split
    · obtain ⟨h1, h2⟩ := wlkI_le f g nd first n (ofM f s.toNatClampNeg 4) (rsnAt f s.toNatClampNeg (decide (s = first)) g nd) (k + 1) (rsnAt_le ..)
      exact ⟨h1, by omega⟩
    · exact ⟨h, by omega⟩
theorem wlk_le (f : Nat → Int32) (g d : Nat) (nd : Int32) : (∃ q : Nat, q < 7 ∧ (wlk f g d nd).1 = nI q) ∧ (wlk f g d nd).2 ≤ 41 := by
  unfold wlk
  have h := wlkI_le f (nI g) nd (ledM f g d) 41 (ledM f g d) (if ledM f g d < 0 then 1 else 0) 0 (by
    split
    · exact ⟨1, by omega, rfl⟩
    · exact ⟨0, by omega, rfl⟩)
  exact ⟨h.1, by have := h.2; omega⟩
/-- a walk that ends well has a stamp at its door -/
theorem wlk_0 {f : Nat → Int32} {g d : Nat} {nd : Int32} (h : (wlk f g d nd).1 = 0) : ¬ ledM f g d < 0 := by
  intro hl
  unfold wlk at h
  rw [if_pos hl, wlkI, if_neg (by simp [hl])] at h
  exact absurd h (by decide)
theorem set_ge {f : Nat → Int32} {mk nn b q : Nat} (hW : WF f mk nn b) (hq : q < 4) : (0 : Int32) ≤ f q := by
  obtain ⟨hmk, h40, hnn, hb0, hb1, hb8, hnb, hst, hnk, how, hdo, hs1, hs2, hs3, hZF⟩ := hW
  match q, hq with
  | 0, _ => rw [hb0]; exact nI_ge0 (by omega)
  | 1, _ => rcases hs1 with h | h <;> rw [h] <;> decide
  | 2, _ => rcases hs2 with h | h | h <;> rw [h] <;> decide
  | 3, _ => rcases hs3 with h | h <;> rw [h] <;> decide
theorem set_b {f : Nat → Int32} {b q : Nat} {x v : Int32} (hb0 : f 0 = nI b) (hb8 : b ≤ 8) (hq : q < 4) (ex : x = nI q) (h : (if x = 0 then (1 : Int) else 0) ≤ v.toInt ∧ v.toInt ≤ (hiS x).toInt) : ∃ b1 : Nat, b1 ≤ 8 ∧ up f q v 0 = nI b1 := by
  by_cases h0 : q = 0
  · subst h0
    have ex0 : x = 0 := ex
    rw [if_pos ex0] at h
    have h8 : (hiS x).toInt = 8 := by unfold hiS; rw [if_pos ex0]; rfl
    rw [h8] at h
    obtain ⟨k, hk, e⟩ := rng_nI (n := 9) (x := v) (decide_eq_true ⟨by omega, by omega⟩)
    exact ⟨k, by omega, by rw [up_s]; exact e⟩
  · exact ⟨b, hb8, by rw [up_n _ _ (fun z => h0 z.symm)]; exact hb0⟩
