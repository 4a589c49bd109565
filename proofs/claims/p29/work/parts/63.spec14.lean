theorem set_b2 {f : Nat → Int32} {b q : Nat} {v : Int32} (hb0 : f 0 = nI b) (hb8 : b ≤ 8) (hq : q < 4) (h : (if nI q = 0 then (1 : Int) else 0) ≤ v.toInt ∧ v.toInt ≤ (hiS (nI q)).toInt) : ∃ b2 : Nat, up f q v 0 = nI b2 ∧ b2 ≤ 8 := by
  by_cases h0 : q = 0
  · subst h0
    have h1 : (1 : Int) ≤ v.toInt := h.1
    have h2 : v.toInt ≤ 8 := h.2
    obtain ⟨k, hk, e⟩ := rng_nI (n := 9) (x := v) (decide_eq_true ⟨by omega, by omega⟩)
    exact ⟨k, by rw [up_s]; exact e, by omega⟩
  · exact ⟨b, by rw [up_n _ _ (by omega)]; exact hb0, hb8⟩
