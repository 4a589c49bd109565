theorem yTake_b {v : Int32} {y : Y3} (h : y.2.1 ≤ 4) : (yTake v y).1 = y.1 + 1 ∧ (yTake v y).2.1 ≤ 4 := by
  refine ⟨rfl, ?_⟩
  show (if y.2.1 < 4 then y.2.1 + 1 else y.2.1) ≤ 4
  split <;> omega
theorem yDigit_b {td : Nat → Int32} {lo hi : Int32} {L : Nat} {y : Y3} (h1 : y.1 < L) (h : y.2.1 ≤ 4) : (yDigit td lo hi y).2.1 ≤ L ∧ (yDigit td lo hi y).2.2.1 ≤ 4 := by
  unfold yDigit
  obtain ⟨t1, t2⟩ := yTake_b (v := td y.1 - 48) h
  split
  · exact ⟨by show (yTake _ y).1 ≤ L; omega, t2⟩
  · exact ⟨by show y.1 ≤ L; omega, h⟩
theorem yNum_b {td : Nat → Int32} {L : Nat} {y : Y3} (h1 : y.1 < L) (h : y.2.1 ≤ 4) : (yNum td L y).2.1 ≤ L ∧ (yNum td L y).2.2.1 ≤ 4 := by
  unfold yNum
  split
  · split
    · rename_i hc
      have h2 : y.1 + 1 < L := of_decide_eq_true (Bool.and_eq_true_iff.mp (Bool.and_eq_true_iff.mp hc).2).1
      obtain ⟨t1, t2⟩ := yTake_b (v := (td y.1 - 48) * 10 + (td (y.1 + 1) - 48)) (y := (y.1 + 1, y.2)) h
      exact ⟨by show (yTake _ (y.1 + 1, y.2)).1 ≤ L; rw [t1]; show y.1 + 1 + 1 ≤ L; omega, t2⟩
    · obtain ⟨t1, t2⟩ := yTake_b (v := td y.1 - 48) h
      exact ⟨by show (yTake _ y).1 ≤ L; omega, t2⟩
  · exact ⟨by show y.1 ≤ L; omega, h⟩
theorem yOr_b {td : Nat → Int32} {r : Y3 → Bool × Y3} {L : Nat} {y : Y3} (h1 : y.1 < L) (h : y.2.1 ≤ 4) (hr : (r y).2.1 ≤ L ∧ (r y).2.2.1 ≤ 4) : (yOr td r y).2.1 ≤ L ∧ (yOr td r y).2.2.1 ≤ 4 := by
  unfold yOr
  obtain ⟨t1, t2⟩ := yTake_b (v := -6) h
  split
  · exact ⟨by show (yTake _ y).1 ≤ L; omega, t2⟩
  · exact hr
theorem yNeed_b {td : Nat → Int32} {L : Nat} {y : Y3} (h1 : y.1 < L) (h : y.2.1 ≤ 4) : (yNeed td y).2.1 ≤ L ∧ (yNeed td y).2.2.1 ≤ 4 := by
  unfold yNeed
  obtain ⟨t1, t2⟩ := yTake_b (v := 1) h
  obtain ⟨s1, s2⟩ := yTake_b (v := 2) h
  split
  · exact ⟨by show (yTake _ y).1 ≤ L; omega, t2⟩
  · split
    · exact ⟨by show (yTake _ y).1 ≤ L; omega, s2⟩
    · exact ⟨by show y.1 ≤ L; omega, h⟩
theorem yItself_b {td : Nat → Int32} {ch : Int32} {L : Nat} {y : Y3} (h1 : y.1 < L) (h : y.2.1 ≤ 4) : (yItself td ch y).2.1 ≤ L ∧ (yItself td ch y).2.2.1 ≤ 4 := by
  unfold yItself
  split
  · exact ⟨by show y.1 + 1 ≤ L; omega, h⟩
  · exact ⟨by show y.1 ≤ L; omega, h⟩
theorem yPart_b {td : Nat → Int32} {ch : Int32} {L : Nat} {y : Y3} (h1 : y.1 < L) (h : y.2.1 ≤ 4) : (yPart td L ch y).2.1 ≤ L ∧ (yPart td L ch y).2.2.1 ≤ 4 := by
  unfold yPart
  split
  · exact yOr_b h1 h (yDigit_b h1 h)
  · split
    · exact yOr_b h1 h (yNum_b h1 h)
    · split
      · exact yNeed_b h1 h
      · split
        · exact yDigit_b h1 h
        · split
          · exact yDigit_b h1 h
          · split
            · exact yDigit_b h1 h
            · split
              · exact yNum_b h1 h
              · exact yItself_b h1 h
theorem yLoop_b {td : Nat → Int32} {L i : Nat} : ∀ (n k : Nat) (y : Y3), y.1 ≤ L → y.2.1 ≤ 4 → (yLoop td L i n k y).2.1 ≤ L ∧ (yLoop td L i n k y).2.2.1 ≤ 4
  | 0, k, y, h1, h2 => ⟨h1, h2⟩
  | n + 1, k, y, h1, h2 => by
    rw [yLoop]
    split
    · exact ⟨h1, h2⟩
    · rename_i hl
      have hb := yPart_b (td := td) (ch := shC i k) (L := L) (y := y) (by omega) h2
      split
      · exact yLoop_b n (k + 1) _ hb.1 hb.2
      · exact hb
theorem yOrder_b {td : Nat → Int32} {L pt fl : Nat} {vl : Nat → Int32} (h : pt ≤ L) : (yOrder td L pt fl vl).2.1 ≤ L := by
  unfold yOrder
  split
  · exact h
  · split
    · exact h
    · exact (yLoop_b _ _ _ (by show pt + 1 ≤ L; omega) (by show (0 : Nat) ≤ 4; omega)).1
/-- the place of the first fault (none: -6), from a place on -/
def yF (td : Nat → Int32) (L : Nat) : Nat → Nat → Nat → (Nat → Int32) → Int32
  | 0, pt, _, _ => nI pt
  | n + 1, pt, fl, vl => if (yOrder td L pt fl vl).1 = true then (if L ≤ (yOrder td L pt fl vl).2.1 then -6 else if td (yOrder td L pt fl vl).2.1 = 59 then yF td L n ((yOrder td L pt fl vl).2.1 + 1) (yOrder td L pt fl vl).2.2.1 (yOrder td L pt fl vl).2.2.2 else nI (yOrder td L pt fl vl).2.1) else nI (yOrder td L pt fl vl).2.1
