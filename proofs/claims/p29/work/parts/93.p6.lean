/-! ===== a guest comes ===== -/
theorem based_cx {f g : Nat → Int32} {mk s : Nat} (hst : ∀ s, s < mk → stOK f s) (h40 : mk ≤ 40) (ho : ∀ p, p < 12 → g (4 + p) = f (4 + p)) (hs : ∀ s, s < mk → ∀ w, w < 7 → ofM g s w = ofM f s w) (hm : s < mk) : basedM g s = basedM f s := by
  obtain ⟨⟨p, hp, ep⟩, -, -, -, hrt, -, -⟩ := hst s hm
  unfold basedM rtM
  rw [hs s hm 4 (by omega), hs s hm 1 (by omega), hs s hm 0 (by omega), hs s hm 3 (by omega), ep, nI_clamp (by omega), ho p hp]
  rcases hrt with z | ⟨r, hr, z⟩
  · rw [z, if_pos neg6, if_pos neg6]
  · rw [z, nI_clamp (by omega), hs r (by omega) 0 (by omega), hs r (by omega) 2 (by omega), hs r (by omega) 3 (by omega)]
theorem wlkI_cc {f f' : Nat → Int32} {mk : Nat} {g nd x0 : Int32} (hst : ∀ s, s < mk → stOK f s) (h40 : mk ≤ 40) (ho : ∀ p, p < 12 → f' (4 + p) = f (4 + p)) (hs : ∀ s, s < mk → ∀ w, w < 7 → ofM f' s w = ofM f s w) :
    ∀ k x r i, (x = -6 ∨ ∃ q : Nat, q < mk ∧ x = nI q) → wlkI f' g nd x0 k x r i = wlkI f g nd x0 k x r i
  | 0, _, _, _, _ => rfl
  | k + 1, x, r, i, hx => by
    rw [wlkI, wlkI]
    by_cases hc : ¬ x < 0 ∧ r = 0
    · rw [if_pos hc, if_pos hc]
      rcases hx with z | ⟨q, hq, z⟩
      · rw [z] at hc; exact absurd neg6 hc.1
      · have er : rsnAt f' q (decide (x = x0)) g nd = rsnAt f q (decide (x = x0)) g nd := by
          unfold rsnAt
          rw [hs q hq 2 (by omega), hs q hq 5 (by omega), hs q hq 6 (by omega), hs q hq 3 (by omega), based_cx hst h40 ho hs hq]
        obtain ⟨-, -, -, -, hrt, -, -⟩ := hst q hq
        rw [z, nI_clamp (by omega), ← z, er, hs q hq 4 (by omega)]
        refine wlkI_cc hst h40 ho hs k _ _ _ ?_
        rcases hrt with y | ⟨r2, hr2, y⟩
        · exact Or.inl y
        · exact Or.inr ⟨r2, by omega, y⟩
    · rw [if_neg hc, if_neg hc]
theorem wlk_cx {f f' : Nat → Int32} {mk g d : Nat} {nd : Int32} (hst : ∀ s, s < mk → stOK f s) (h40 : mk ≤ 40) (hdo : ∀ k, k < 60 → f (16 + k) = -6 ∨ ∃ s : Nat, s < mk ∧ f (16 + k) = nI s) (hg : g < 6) (hd : d < 10) (h : ∀ m, (4 ≤ m ∧ m < 76) ∨ 127 ≤ m → f' m = f m) : wlk f' g d nd = wlk f g d nd := by
  have el : ledM f' g d = ledM f g d := h _ (by omega)
  unfold wlk
  rw [el]
  exact wlkI_cc hst h40 (fun p hp => h _ (by omega)) (fun s _ w _ => h _ (by omega)) _ _ _ _ (hdo (10 * g + d) (by omega))
/-- a note's row is fine under another row with the same doors and stamps -/
theorem okR_c {f f' : Nat → Int32} {mk : Nat} {x : Int32 × Int32 × Int32 × Int32} (hst : ∀ s, s < mk → stOK f s) (h40 : mk ≤ 40) (eM : mkN f = mk) (eM' : mkN f' = mk) (h : ∀ m, (4 ≤ m ∧ m < 76) ∨ 127 ≤ m → f' m = f m) (hx : okR f x) : okR f' x := by
  obtain ⟨g, d, e, t, hg, hd, he, ht, e0, e1, e2, el, e3, eh, eg, er⟩ := hx
  rw [eM] at ht
  have es : ∀ w, ofM f' t w = ofM f t w := fun w => h _ (by omega)
  exact ⟨g, d, e, t, hg, hd, he, by rw [eM']; exact ht, e0, e1, e2, (show ledM f' g d = ledM f g d from h _ (by omega)).trans el, by rw [es]; exact e3, by rw [es]; exact eh, by rw [gd_cx hst h40 (fun m hm => h m (by omega)) ht]; exact eg, by rw [es]; exact er⟩
/-- rows that were there, in another order, some gone -/
theorem NT_list {f f' : Nat → Int32} {mk n b n' b' : Nat} {l : List (Int32 × Int32 × Int32 × Int32)} (hW : WF f mk n b) (hW' : WF f' mk n' b') (h : ∀ m, (4 ≤ m ∧ m < 76) ∨ 127 ≤ m → f' m = f m) (e : (ntl f' n').Sublist l) (hl : ∀ x ∈ l, okR f x) (hd : (l.map key4).Nodup) : NT f' := by
  have eN' := nN_of hW'
  refine ⟨fun x hx => ?_, ?_⟩
  · rw [eN'] at hx
    exact okR_c hW.2.2.2.2.2.2.2.1 hW.2.1 (mkN_of hW) (mkN_of hW') h (hl x (e.subset hx))
  · rw [eN']
    exact (e.map key4).nodup hd
/-- whether entering wipes the board -/
def cmW (f : Nat → Int32) (g : Int32) : Bool := decide (¬ f 77 = g) && decide (f 1 = 0)
theorem cm_facts {f : Nat → Int32} {mk n b : Nat} {g : Int32} (hW : WF f mk n b) :
    WF (cmF f g) mk (if cmW f g = true then 0 else n) b ∧ cmF f g 77 = g ∧ cmF f g 78 = f 78 + 1 ∧ cmF f g 81 = f 81 + (if cmW f g = true then nI n else 0) ∧ (∀ m, m < 77 ∨ m = 79 ∨ m = 80 ∨ (82 ≤ m ∧ m < 90) ∨ 91 ≤ m → cmF f g m = f m) := by
  have hn8 : f 90 = nI n := hW.2.2.1
  have hnb : n ≤ b := hW.2.2.2.2.2.2.1
  have h1 : WF (up f 78 (f 78 + 1)) mk n b := (hW.w0.cnt _ (by omega) (by omega)).w hnb
  have h2 : WF (up (up f 78 (f 78 + 1)) 77 g) mk n b := (h1.w0.cnt _ (by omega) (by omega)).w hnb
  unfold cmF enF cmW
  rw [up_n f _ (by omega : 77 ≠ 78), up_n f _ (by omega : 1 ≠ 78)]
  by_cases hg : f 77 = g
  · rw [if_pos hg, decide_eq_false (not_not_intro hg), Bool.false_and, if_neg Bool.false_ne_true, if_neg Bool.false_ne_true]
    exact ⟨h1, by rw [up_n _ _ (by omega)]; exact hg, up_s _ _ _, by rw [up_n _ _ (by omega), Int32.add_zero], fun m hm => up_n _ _ (by omega)⟩
  · rw [if_neg hg, decide_eq_true hg, Bool.true_and]
    by_cases h0 : f 1 = 0
    · rw [if_pos h0, decide_eq_true h0, if_pos rfl, if_pos rfl]
      refine ⟨wp_ok h2, ?_, ?_, ?_, fun m hm => ?_⟩
      · unfold wpF; rw [up_n _ _ (by omega), up_n _ _ (by omega), up_s]
      · unfold wpF; rw [up_n _ _ (by omega), up_n _ _ (by omega), up_n _ _ (by omega), up_s]
      · unfold wpF; rw [up_s, up_n _ _ (by omega), up_n _ _ (by omega), up_n _ _ (by omega : 90 ≠ 77), up_n _ _ (by omega : 90 ≠ 78), hn8]
      · unfold wpF; rw [up_n _ _ (by omega), up_n _ _ (by omega), up_n _ _ (by omega), up_n _ _ (by omega)]
    · rw [if_neg h0, decide_eq_false h0, if_neg Bool.false_ne_true, if_neg Bool.false_ne_true]
      exact ⟨h2, up_s _ _ _, by rw [up_n _ _ (by omega), up_s], by rw [up_n _ _ (by omega), up_n _ _ (by omega), Int32.add_zero], fun m hm => by rw [up_n _ _ (by omega), up_n _ _ (by omega)]⟩
theorem cm_NT {f : Nat → Int32} {mk n b : Nat} {g : Int32} (hW : WF f mk n b) (hN : NT f) : (∀ x ∈ ntl (cmF f g) (if cmW f g = true then 0 else n), okR (cmF f g) x) ∧ ((ntl (cmF f g) (if cmW f g = true then 0 else n)).map key4).Nodup := by
  obtain ⟨h1, -, -, -, h5⟩ := cm_facts (g := g) hW
  have hno : ∀ k, rw4 (cmF f g) k = rw4 f k := fun k => by unfold rw4 noteM; rw [h5 _ (by omega), h5 _ (by omega), h5 _ (by omega), h5 _ (by omega)]
  have hN' : NT (cmF f g) := by
    have h8 := hN
    refine NT_list (l := ntl f n) hW h1 (fun m hm => h5 m (by omega)) ?_ (by have := hN.1; rw [nN_of hW] at this; exact this) (by have := hN.2; rw [nN_of hW] at this; exact this)
    unfold ntl
    rw [show (List.range (if cmW f g = true then 0 else n)).map (rw4 (cmF f g)) = (List.range (if cmW f g = true then 0 else n)).map (rw4 f) from List.map_congr_left (fun k _ => hno k)]
    split
    · exact List.nil_sublist _
    · exact List.Sublist.refl _
  have e := nN_of h1
  obtain ⟨a1, a2⟩ := hN'
  rw [e] at a1 a2
  exact ⟨a1, a2⟩
theorem fnd_some {P : Nat → Bool} : ∀ k i j, i ≤ j → j < i + k → P j = true → ∃ q, i ≤ q ∧ q ≤ j ∧ P q = true ∧ fndI P k i = nI q
  | 0, i, j, h1, h2, _ => by omega
  | k + 1, i, j, h1, h2, hp => by
    rw [fndI]
    by_cases h : P i = true
    · rw [if_pos h]; exact ⟨i, Nat.le_refl _, h1, h, rfl⟩
    · rw [if_neg h]
      have hne : i ≠ j := fun z => h (by rw [z]; exact hp)
      obtain ⟨q, q1, q2, q3, q4⟩ := fnd_some k (i + 1) j (by omega) (by omega) hp
      exact ⟨q, by omega, q2, q3, q4⟩
theorem fnd_none {P : Nat → Bool} : ∀ k i, (∀ j, i ≤ j → j < i + k → P j = false) → fndI P k i = -6
  | 0, _, _ => rfl
  | k + 1, i, h => by
    rw [fndI, if_neg (by rw [h i (Nat.le_refl _) (by omega)]; exact Bool.false_ne_true)]
    exact fnd_none k (i + 1) (fun j h1 h2 => h j (by omega) (by omega))
theorem isN_key {f : Nat → Int32} {g d e : Int32} {k : Nat} (h : isNote f g d e k = true) : noteM f k 0 = g ∧ noteM f k 1 = d ∧ noteM f k 2 = e := by
  obtain ⟨h1, h2⟩ := Bool.and_eq_true_iff.mp h
  obtain ⟨h2, h3⟩ := Bool.and_eq_true_iff.mp h2
  exact ⟨of_decide_eq_true h1, of_decide_eq_true h2, of_decide_eq_true h3⟩
theorem isN_f {f : Nat → Int32} {g d e : Int32} {k : Nat} (h : ¬ (noteM f k 0 = g ∧ noteM f k 1 = d ∧ noteM f k 2 = e)) : isNote f g d e k = false := by
  cases hb : isNote f g d e k with
  | false => rfl
  | true => exact absurd (isN_key hb) h
theorem isN_t {f : Nat → Int32} {g d e : Int32} {k : Nat} (h1 : noteM f k 0 = g) (h2 : noteM f k 1 = d) (h3 : noteM f k 2 = e) : isNote f g d e k = true := by
  unfold isNote
  rw [decide_eq_true h1, decide_eq_true h2, decide_eq_true h3]
  rfl
/-- the counts behind a visit that a note helps -/
theorem CT_A {c : Nat} {f f' : Nat → Int32} (h : CT c f) (h78 : f' 78 = f 78 + 1) (h79 : f' 79 = f 79 + 1) (h83 : f' 83 = f 83 + 1) (hr : ∀ r, 1 ≤ r → r < 7 → f' (83 + r) = f (83 + r)) : CT (c + 1) f' := by
  obtain ⟨e, hh, k1, k2, k3, k4, k5⟩ := h
  refine ⟨fun r => if r = 0 then e 0 + 1 else e r, hh + 1, fun r hr7 => ?_, ?_, ?_, ?_, ?_⟩
  · show f' (83 + r) = nI (if r = 0 then e 0 + 1 else e r)
    by_cases h0 : r = 0
    · subst h0
      rw [if_pos rfl]
      exact h83.trans (by rw [show f 83 = nI (e 0) from k1 0 (by omega)]; exact nI_add (e 0) 1)
    · rw [if_neg h0, hr r (by omega) hr7]
      exact k1 r hr7
  · rw [h78, k2, show (1 : Int32) = nI 1 from rfl, nI_add]
    congr 1
    simp
    omega
  · simp; omega
  · rw [h79, k4]; exact nI_add hh 1
  · simp; omega
theorem CT_B {c q : Nat} {f f' : Nat → Int32} (h : CT c f) (hq : q < 7) (h78 : f' 78 = f 78 + 1) (h79 : f' 79 = f 79) (h83 : f' (83 + q) = f (83 + q) + 1) (hr : ∀ r, r ≠ q → r < 7 → f' (83 + r) = f (83 + r)) : CT (c + 1) f' := by
  obtain ⟨e, hh, k1, k2, k3, k4, k5⟩ := h
  have hs : ∀ e : Nat → Nat, ∀ q, q < 7 → up e q (e q + 1) 0 + up e q (e q + 1) 1 + up e q (e q + 1) 2 + up e q (e q + 1) 3 + up e q (e q + 1) 4 + up e q (e q + 1) 5 + up e q (e q + 1) 6 = e 0 + e 1 + e 2 + e 3 + e 4 + e 5 + e 6 + 1 := by
    intro e q hq
    rcases (show q = 0 ∨ q = 1 ∨ q = 2 ∨ q = 3 ∨ q = 4 ∨ q = 5 ∨ q = 6 by omega) with rfl | rfl | rfl | rfl | rfl | rfl | rfl
    all_goals simp [up_e]; omega
  refine ⟨up e q (e q + 1), hh, fun r hr7 => ?_, ?_, ?_, by rw [h79]; exact k4, ?_⟩
  · by_cases h0 : r = q
    · subst h0
      rw [up_s, h83, k1 r hr7]
      exact nI_add (e r) 1
    · rw [up_n _ _ h0, hr r h0 hr7]
      exact k1 r hr7
  · rw [hs e q hq, h78, k2]
    exact nI_add _ 1
  · rw [hs e q hq]; omega
  · have : e 0 ≤ up e q (e q + 1) 0 := by
      rw [up_e]
      split
      · rename_i h0; rw [← h0]; omega
      · omega
    omega
