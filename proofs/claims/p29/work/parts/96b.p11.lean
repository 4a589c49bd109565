/-! ===== what stays true under any of the six orders ===== -/
theorem stamp_si {f : Nat → Int32} {mk n b c gv hd pg rt : Nat} (hW : WF f mk n b) (hS : SI c f) (hgv : gv < 6) (hhd : hd < 6) (hpg : pg < 12) (hrt : 1 ≤ rt ∧ rt ≤ 7) : SI c (stampS f (nI gv) (nI hd) (nI pg) (nI rt)).2 := by
  have h40 : mk ≤ 40 := hW.2.1
  rcases Nat.eq_or_lt_of_le h40 with hm | hm
  · rw [stamp_4 hW hm hgv hhd hpg hrt]; exact hS
  · by_cases ho : f (4 + pg) = nI gv
    · obtain ⟨-, -, h, -⟩ := stamp_chg hW hS hm hgv hhd hpg hrt ho rfl
      exact h
    · rw [stamp_5 hW hm hgv hhd hpg hrt ho]; exact hS
theorem pass_si {f : Nat → Int32} {mk n b c t hd rt : Nat} (hW : WF f mk n b) (hS : SI c f) (ht : t < 10) (hhd : hd < 6) (hrt : 1 ≤ rt ∧ rt ≤ 7) : SI c (passS f (nI t) (nI hd) (nI rt)).2 := by
  have h40 : mk ≤ 40 := hW.2.1
  rcases Nat.lt_or_ge t mk with h | h
  · rcases Nat.eq_or_lt_of_le h40 with hm | hm
    · rw [pass_4 hW hm h hhd hrt]; exact hS
    · obtain ⟨-, -, -, ⟨r, hr, er⟩, -, -, -⟩ := hW.2.2.2.2.2.2.2.1 t h
      by_cases hc : gd f t = true ∧ 4 ≤ r ∧ nI r &&& nI rt = nI rt
      · obtain ⟨-, -, h', -⟩ := pass_chg hW hS hm h hhd hrt er hr hc.1 hc.2.1 hc.2.2 rfl
        exact h'
      · rw [pass_5 hW hm h hhd hrt er hr ?_]
        · exact hS
        · cases hg : gd f t with
          | false => exact Or.inl rfl
          | true =>
            rcases Nat.lt_or_ge r 4 with q | q
            · exact Or.inr (Or.inl q)
            · exact Or.inr (Or.inr (fun z => hc ⟨hg, q, z⟩))
  · have e : passS f (nI t) (nI hd) (nI rt) = (-1, f) := by
      unfold passS
      rw [mkN_of hW, rng_no h (by omega), Bool.false_and, if_neg Bool.false_ne_true]
    rw [e]; exact hS
theorem door_si {f : Nat → Int32} {mk n b c g d y : Nat} (hW : WF f mk n b) (hS : SI c f) (hg : g < 6) (hd : d < 10) (hy : y < 10) : SI c (doorS f (nI g) (nI d) (nI y)).2 := by
  have h40 : mk ≤ 40 := hW.2.1
  rcases Nat.lt_or_ge y mk with h | h
  · by_cases hl : ledM f g d = nI y
    · obtain ⟨-, -, h', -⟩ := door_chg hW hS hg hd (Or.inr ⟨y, h, rfl⟩) (Or.inl ⟨hl, rfl⟩) rfl
      exact h'
    · obtain ⟨-, -, h', -⟩ := door_chg hW hS hg hd (Or.inr ⟨y, h, rfl⟩) (Or.inr ⟨hl, rfl⟩) rfl
      exact h'
  · have e : doorS f (nI g) (nI d) (nI y) = (-1, f) := by
      unfold doorS
      rw [mkN_of hW, rng_no h (by omega), decide_eq_false (nI_n6 (by omega)), Bool.false_or, Bool.and_false, if_neg Bool.false_ne_true]
    rw [e]; exact hS
theorem come_si {f : Nat → Int32} {mk n b c g d e : Nat} (hW : WF f mk n b) (hS : SI c f) (hg : g < 6) (hd : d < 10) (he : e = 1 ∨ e = 2) : SI (c + 1) (comeS f (nI g) (nI d) (nI e)).2 := by
  by_cases hno : cmW f (nI g) = true ∨ ∀ j, j < n → isNote f (nI g) (nI d) (nI e) j = false
  · obtain ⟨⟨r, hr7, er⟩, -⟩ := wlk_le f g d (nI e)
    rcases Nat.eq_zero_or_pos r with h0 | h0
    · obtain ⟨-, -, h, -⟩ := come_C hW hS hg hd he hno (er.trans (by rw [h0]; rfl)) rfl rfl
      exact h
    · obtain ⟨-, -, h, -⟩ := come_B hW hS hg hd he hno er rfl hr7 h0 rfl
      exact h
  · have hw : cmW f (nI g) = false := by
      cases hc : cmW f (nI g) with
      | false => rfl
      | true => exact absurd (Or.inl hc) hno
    obtain ⟨j, hj⟩ := Classical.not_forall.mp (fun z => hno (Or.inr z))
    obtain ⟨hjn, hm⟩ := Classical.not_imp.mp hj
    obtain ⟨-, -, h, -⟩ := come_A hW hS hg hd he hw hjn (by simpa using hm) rfl
    exact h
theorem take_si {f : Nat → Int32} {mk n b c t : Nat} (hW : WF f mk n b) (hS : SI c f) (ht : t < 40) : SI c (takeS f (nI t)).2 := by
  have h40 : mk ≤ 40 := hW.2.1
  rcases Nat.lt_or_ge t mk with h | h
  · by_cases h6 : ofM f t 6 = 1
    · rw [take_5 hW h h6]; exact hS
    · obtain ⟨⟨p, hp, ep⟩, -, -, -, -, -, -⟩ := hW.2.2.2.2.2.2.2.1 t h
      obtain ⟨-, -, -, -, h'⟩ := take_chg hW h h6 ep hS
      exact h'
  · have e : takeS f (nI t) = (-1, f) := by
      unfold takeS
      rw [mkN_of hW, rng_no h (by omega), if_neg Bool.false_ne_true]
    rw [e]; exact hS
theorem own_si {f : Nat → Int32} {mk n b c p g : Nat} (hW : WF f mk n b) (hS : SI c f) (hp : p < 12) (hg : g < 6) : SI c (ownS f (nI p) (nI g)).2 := by
  obtain ⟨-, -, -, -, h⟩ := own_chg hW hp (Or.inr ⟨g, hg, rfl⟩) hS
  exact h
