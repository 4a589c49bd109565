/-! ===== going back, and what is refused ===== -/
theorem own_ge {f : Nat → Int32} {mk n b c p g : Nat} (hW : WF f mk n b) (hS : SI c f) (hp : p < 12) (hg : g < 6) : (0 : Int32) ≤ (ownS f (nI p) (nI g)).1 := by
  have hb : b ≤ 8 := hW.2.2.2.2.2.1
  have hnb : n ≤ b := hW.2.2.2.2.2.2.1
  obtain ⟨P, h, -⟩ := own_chg hW hp (Or.inr ⟨g, hg, rfl⟩) hS
  have hl := cnI_le P n
  rw [h]
  exact nI_ge0 (by omega)
theorem forge_si {f : Nat → Int32} {mk n b c gv hd pg rt : Nat} (hW : WF f mk n b) (hS : SI c f) (hgv : gv < 6) (hhd : hd < 6) (hpg : pg < 12) (hrt : 1 ≤ rt ∧ rt ≤ 7) : SI c (forgeS f (nI gv) (nI hd) (nI pg) (nI rt) (-6)).2 := by
  have h40 : mk ≤ 40 := hW.2.1
  rcases Nat.eq_or_lt_of_le h40 with hm | hm
  · rw [forge_4 hW hm hgv hhd hpg hrt (Or.inl rfl)]; exact hS
  · obtain ⟨-, -, h, -⟩ := forge_chg hW hS hm hgv hhd hpg hrt (Or.inl rfl) rfl
    exact h
theorem hN_t {x : Int32} {kp : Nat} {pq : Nat → Option HH} {f : Nat → Int32} {l : List (Nat → Int32)} (h : 0 ≤ x) (hl : HL kp pq (hNew x f l)) : HL kp pq ((f :: l).take 6) := by
  unfold hNew at hl
  rw [if_pos h] at hl
  exact hl
theorem hN_f {x : Int32} {kp : Nat} {pq : Nat → Option HH} {f : Nat → Int32} {l : List (Nat → Int32)} (h : x < 0) (hl : HL kp pq (hNew x f l)) : HL kp pq l := by
  unfold hNew at hl
  rw [if_neg (Int32.not_le.mpr h)] at hl
  exact hl
/-- a number that each call refuses -/
def BAD (v : Int32) : Prop := (∀ n, n ≤ 15 → rng n v = false) ∧ ∀ k, k < 21 → ¬ v = nI k - 6
theorem BAD.r {v : Int32} (h : BAD v) (n : Nat) (hn : n ≤ 15) : rng n v = false := h.1 n hn
theorem BAD.k {v : Int32} (h : BAD v) (k : Int32) (hk : ∃ j, j < 21 ∧ k = nI j - 6) : ¬ v = k := by
  obtain ⟨j, hj, rfl⟩ := hk
  exact h.2 j hj
theorem bad_hi {u : Nat} (h : u < 1000000000) : BAD (nI (15 + u)) :=
  ⟨fun n hn => rng_no (by omega) (by omega), fun k hk z => by
    have e := congrArg Int32.toInt z
    rw [nI_toInt (by omega)] at e
    have h2 : ∀ k, k < 21 → (nI k - 6).toInt ≤ (14 : Int) := by decide
    have := h2 k hk
    omega⟩
theorem neg_int {u : Nat} (h : u < 1000000000) : ((-7 : Int32) - nI u).toInt = -7 - (u : Int) := by
  rw [Int32.toInt_sub, nI_toInt (by omega), show ((-7 : Int32)).toInt = -7 from rfl]
  exact Int.bmod_eq_of_le (by omega) (by omega)
theorem bad_lo {u : Nat} (h : u < 1000000000) : BAD ((-7 : Int32) - nI u) :=
  ⟨fun n hn => by
    unfold rng
    refine decide_eq_false (fun z => ?_)
    rw [neg_int h] at z
    omega, fun k hk z => by
    have e := congrArg Int32.toInt z
    rw [neg_int h] at e
    have h2 : ∀ k, k < 21 → (-6 : Int) ≤ (nI k - 6).toInt := by decide
    have := h2 k hk
    omega⟩
theorem BAD.rt {v : Int32} (h : BAD v) : rtOK v = false := by
  have h8 := h.r 8 (by omega)
  unfold rng at h8
  unfold rtOK
  refine decide_eq_false (fun z => of_decide_eq_false h8 ?_)
  omega
