/-! ===== what stays true of a state: notes are of walks that end well now, counts agree ===== -/
def rw4 (f : Nat → Int32) (k : Nat) : Int32 × Int32 × Int32 × Int32 := (noteM f k 0, noteM f k 1, noteM f k 2, noteM f k 3)
def key4 (x : Int32 × Int32 × Int32 × Int32) : Int32 × Int32 × Int32 := (x.1, x.2.1, x.2.2.1)
/-- a note's row is of a walk that would end well -/
def okR (f : Nat → Int32) (x : Int32 × Int32 × Int32 × Int32) : Prop := ∃ g d e t : Nat, g < 6 ∧ d < 10 ∧ (e = 1 ∨ e = 2) ∧ t < mkN f ∧ x.1 = nI g ∧ x.2.1 = nI d ∧ x.2.2.1 = nI e ∧ ledM f g d = nI t ∧ x.2.2.2 = ofM f t 0 ∧ ofM f t 2 = nI g ∧ gd f t = true ∧ ¬ ofM f t 3 &&& nI e = 0
/-- the notes, a row each -/
def ntl (f : Nat → Int32) (n : Nat) : List (Int32 × Int32 × Int32 × Int32) := (List.range n).map (rw4 f)
def NT (f : Nat → Int32) : Prop := (∀ x ∈ ntl f (nN f), okR f x) ∧ ((ntl f (nN f)).map key4).Nodup
def sameK (f : Nat → Int32) (j k : Nat) : Prop := noteM f j 0 = noteM f k 0 ∧ noteM f j 1 = noteM f k 1 ∧ noteM f j 2 = noteM f k 2
theorem NT.ok {f : Nat → Int32} {n k : Nat} (h : NT f) (eN : nN f = n) (hk : k < n) : ∃ g d e t : Nat, g < 6 ∧ d < 10 ∧ (e = 1 ∨ e = 2) ∧ t < mkN f ∧ noteM f k 0 = nI g ∧ noteM f k 1 = nI d ∧ noteM f k 2 = nI e ∧ ledM f g d = nI t ∧ noteM f k 3 = ofM f t 0 ∧ ofM f t 2 = nI g ∧ gd f t = true ∧ ¬ ofM f t 3 &&& nI e = 0 :=
  h.1 (rw4 f k) (List.mem_map.mpr ⟨k, List.mem_range.mpr (by omega), rfl⟩)
theorem NT.nd {f : Nat → Int32} {n : Nat} (h : NT f) (eN : nN f = n) : ∀ j k, j < k → k < n → ¬ sameK f j k := by
  intro j k hj hk ⟨h1, h2, h3⟩
  have hn := h.2
  unfold ntl at hn
  rw [eN, List.map_map] at hn
  have hp := List.pairwise_iff_getElem.mp hn j k (by rw [List.length_map, List.length_range]; omega) (by rw [List.length_map, List.length_range]; exact hk) hj
  apply hp
  rw [List.getElem_map, List.getElem_map, List.getElem_range, List.getElem_range]
  show key4 (rw4 f j) = key4 (rw4 f k)
  unfold key4 rw4
  rw [h1, h2, h3]
def CT (c : Nat) (f : Nat → Int32) : Prop := ∃ (e : Nat → Nat) (h : Nat), (∀ r, r < 7 → f (83 + r) = nI (e r)) ∧ f 78 = nI (e 0 + e 1 + e 2 + e 3 + e 4 + e 5 + e 6) ∧ e 0 + e 1 + e 2 + e 3 + e 4 + e 5 + e 6 ≤ c ∧ f 79 = nI h ∧ h ≤ e 0
def SI (c : Nat) (f : Nat → Int32) : Prop := NT f ∧ CT c f
def smE (f : Nat → Int32) : Nat → Int32
  | 0 => 0
  | r + 1 => smE f r + f (83 + r)
theorem CT_sum {c : Nat} {f : Nat → Int32} (h : CT c f) : f 78 = smE f 7 := by
  obtain ⟨e, h', he, h78, -, -, -⟩ := h
  rw [h78]
  show _ = ((((((0 + f (83 + 0)) + f (83 + 1)) + f (83 + 2)) + f (83 + 3)) + f (83 + 4)) + f (83 + 5)) + f (83 + 6)
  rw [he 0 (by omega), he 1 (by omega), he 2 (by omega), he 3 (by omega), he 4 (by omega), he 5 (by omega), he 6 (by omega), Int32.zero_add, nI_add, nI_add, nI_add, nI_add, nI_add, nI_add]
theorem rsn_0 {f : Nat → Int32} {mk r : Nat} {fst : Bool} {g nd : Int32} (hst : ∀ s, s < mk → stOK f s) (h40 : mk ≤ 40) (hr : r < mk) (hg : gd f r = true) (h1 : fst = true → ofM f r 2 = g ∧ ¬ ofM f r 3 &&& nd = 0) : rsnAt f r fst g nd = 0 := by
  rw [gdS hst hr h40] at hg
  obtain ⟨h5, hg⟩ := Bool.and_eq_true_iff.mp hg
  obtain ⟨h6, hg⟩ := Bool.and_eq_true_iff.mp hg
  obtain ⟨hb, -⟩ := Bool.and_eq_true_iff.mp hg
  unfold rsnAt
  rw [if_neg (fun z => z.2 (h1 z.1).1), of_decide_eq_true h5, if_neg (by decide), of_decide_eq_true h6, if_neg (by decide), if_neg (fun z => (h1 z.1).2 z.2), if_pos hb]
theorem wl_ok {f : Nat → Int32} {mk t : Nat} {g nd : Int32} (hst : ∀ s, s < mk → stOK f s) (h40 : mk ≤ 40) (ht : t < mk) (h1 : ofM f t 2 = g ∧ ¬ ofM f t 3 &&& nd = 0) :
    ∀ N r, r < N → r < mk → gd f r = true → ∀ k i, r ≤ k → ∃ j, wlkI f g nd (nI t) (k + 1) (nI r) 0 i = (0, j)
  | 0, r, h, _, _, _, _, _ => absurd h (Nat.not_lt_zero r)
  | N + 1, r, hN, hr, hg, k, i, hk => by
    rw [wlkI_s (by omega), rsn_0 hst h40 hr hg (fun z => by
      have z2 := nj_eq (a := r) (b := t) (by omega) (by omega) (of_decide_eq_true z)
      subst z2
      exact h1)]
    have hg2 := hg
    rw [gdS hst hr h40] at hg2
    obtain ⟨-, -, -, -, hrt, -, -⟩ := hst r hr
    rcases hrt with z | ⟨q, hq, z⟩
    · rw [z]
      exact ⟨i + 1, wlkI_x (Or.inl neg6)⟩
    · rw [z, decide_eq_false (nI_pos (by omega)), Bool.false_or, nI_clamp (by omega)] at hg2
      have hgq : gd f q = true := (Bool.and_eq_true_iff.mp (Bool.and_eq_true_iff.mp (Bool.and_eq_true_iff.mp hg2).2).2).2
      rw [z]
      obtain ⟨k1, rfl⟩ : ∃ k1, k = k1 + 1 := ⟨k - 1, by omega⟩
      exact wl_ok hst h40 ht h1 N q (by omega) (by omega) hgq k1 (i + 1) (by omega)
theorem wlk_good {f : Nat → Int32} {mk g d t : Nat} {nd : Int32} (hst : ∀ s, s < mk → stOK f s) (h40 : mk ≤ 40) (ht : t < mk) (el : ledM f g d = nI t) (eh : ofM f t 2 = nI g) (eg : gd f t = true) (er : ¬ ofM f t 3 &&& nd = 0) : (wlk f g d nd).1 = 0 := by
  unfold wlk
  rw [el, if_neg (nI_pos (by omega))]
  obtain ⟨j, e⟩ := wl_ok hst h40 ht ⟨eh, er⟩ (t + 1) t (by omega) ht eg 40 0 (by omega)
  rw [e]
theorem wl_gd {f : Nat → Int32} {mk t : Nat} {g nd : Int32} (hst : ∀ s, s < mk → stOK f s) (h40 : mk ≤ 40) (ht : t < mk) :
    ∀ N r, r < N → r < mk → ∀ k i, r ≤ k → (wlkI f g nd (nI t) (k + 1) (nI r) 0 i).1 = 0 → gd f r = true ∧ (r = t → ofM f t 2 = g ∧ ¬ ofM f t 3 &&& nd = 0)
  | 0, r, h, _, _, _, _, _ => absurd h (Nat.not_lt_zero r)
  | N + 1, r, hN, hr, k, i, hk, h0 => by
    rw [wlkI_s (by omega)] at h0
    have hz : rsnAt f r (decide (nI r = nI t)) g nd = 0 := by
      by_cases h : rsnAt f r (decide (nI r = nI t)) g nd = 0
      · exact h
      · rw [wlkI_x (Or.inr h)] at h0; exact h0
    rw [hz] at h0
    obtain ⟨-, -, -, -, hrt, ⟨b5, e5⟩, ⟨b6, e6⟩⟩ := hst r hr
    unfold rsnAt at hz
    have hF : r = t → decide (nI r = nI t) = true := fun z => by rw [z]; exact decide_eq_true rfl
    split at hz
    · exact absurd hz (by decide)
    · rename_i n1
      split at hz
      · exact absurd hz (by decide)
      · rename_i n2
        split at hz
        · exact absurd hz (by decide)
        · rename_i n3
          split at hz
          · exact absurd hz (by decide)
          · rename_i n4
            split at hz
            · rename_i hb
              refine ⟨?_, fun z => ⟨Classical.byContradiction (fun y => n1 ⟨hF z, by rw [z]; exact y⟩), fun y => n4 ⟨hF z, by rw [z]; exact y⟩⟩⟩
              rw [gdS hst hr h40, e5, e6, hb]
              rw [e5] at n2
              rw [e6] at n3
              have hb5 : b5 = false := b2i_n1 n2
              have hb6 : b6 = false := b2i_n1 n3
              rw [hb5, hb6]
              rcases hrt with z | ⟨q, hq, z⟩
              · rw [z]; rfl
              · rw [z] at h0 ⊢
                obtain ⟨k1, rfl⟩ : ∃ k1, k = k1 + 1 := ⟨k - 1, by omega⟩
                rw [nI_clamp (by omega), (wl_gd hst h40 ht N q (by omega) (by omega) k1 (i + 1) (by omega) h0).1, decide_eq_false (nI_pos (by omega))]
                rfl
            · exact absurd hz (by decide)
theorem wlk_back {f : Nat → Int32} {mk g d : Nat} {nd : Int32} (hst : ∀ s, s < mk → stOK f s) (h40 : mk ≤ 40) (hdo : ∀ k, k < 60 → f (16 + k) = -6 ∨ ∃ s : Nat, s < mk ∧ f (16 + k) = nI s) (hg : g < 6) (hd : d < 10) (h0 : (wlk f g d nd).1 = 0) :
    ∃ t, t < mk ∧ ledM f g d = nI t ∧ ofM f t 2 = nI g ∧ gd f t = true ∧ ¬ ofM f t 3 &&& nd = 0 := by
  rcases hdo (10 * g + d) (by omega) with z | ⟨t, ht, z⟩
  · have e : ledM f g d = -6 := z
    unfold wlk at h0
    rw [e, if_pos neg6, wlkI_x (Or.inl neg6)] at h0
    exact absurd h0 (by decide)
  · have e : ledM f g d = nI t := z
    unfold wlk at h0
    rw [e, if_neg (nI_pos (by omega))] at h0
    obtain ⟨h1, h2⟩ := wl_gd hst h40 ht (t + 1) t (by omega) ht 40 0 (by omega) h0
    exact ⟨t, ht, e, (h2 rfl).1, h1, (h2 rfl).2⟩
theorem lwk_good {f : Nat → Int32} {g d : Nat} {nd : Int32} (h : (wlk f g d nd).1 = 0) : ∃ i, i ≤ 41 ∧ lwk f g d nd = nI (10 * i) := by
  obtain ⟨-, h2⟩ := wlk_le f g d nd
  refine ⟨(wlk f g d nd).2, h2, ?_⟩
  unfold lwk
  rw [h, Int32.zero_add]
theorem n6_lt {i : Nat} (h : i < 2 ^ 31) : (-6 : Int32) < nI i := Int32.lt_of_lt_of_le neg6 (nI_ge0 h)
theorem cnI_t {P : Nat → Bool} {i : Nat} (h : P i = true) : cnI P (i + 1) = cnI P i + 1 := by rw [cnI, if_pos h]
theorem cnI_f {P : Nat → Bool} {i : Nat} (h : P i = false) : cnI P (i + 1) = cnI P i := by rw [cnI, if_neg (by rw [h]; exact Bool.false_ne_true)]; rfl
theorem mskN_t {P : Nat → Bool} {i : Nat} (hi : i < 64) (h : P i = true) : lN (mskN P i) ||| ((1 : Int64) <<< ((nI i).toInt64 &&& 63)) = lN (mskN P (i + 1)) := by
  rw [lmsk (msk64 (by omega)) hi, mskN, if_pos h]
theorem mskN_f {P : Nat → Bool} {i : Nat} (h : P i = false) : mskN P (i + 1) = mskN P i := by rw [mskN, if_neg (by rw [h]; exact Bool.false_ne_true)]
