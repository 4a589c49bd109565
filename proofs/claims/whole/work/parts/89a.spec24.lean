theorem flt_le {fd : Nat → Int32} {L : Nat} : ∀ (k pt o : Nat) (fn ft : Nat → Int32), pt ≤ L → (fltI fd L k (ordS fd L pt fn ft o)).1.1 ≤ L := by
  intro k
  induction k with
  | zero =>
    intro pt o fn ft h1
    have hr := ord_rel (fd := fd) (L := L) (o := o) (pt := pt) (fl := 0) (vl := fn) (fn := fn)
    have hb := yOrder_b (td := fd) (fl := 0) (vl := fn) h1
    show (qOrd fd L o pt fn).1 ≤ L
    rcases hr with ⟨-, -, a3, -⟩ | ⟨-, a2, -⟩
    · rw [← a3]; exact hb
    · rw [← a2]; exact hb
  | succ k ih =>
    intro pt o fn ft h1
    have hr := ord_rel (fd := fd) (L := L) (o := o) (pt := pt) (fl := 0) (vl := fn) (fn := fn)
    have hb := yOrder_b (td := fd) (fl := 0) (vl := fn) h1
    have hs : (ordS fd L pt fn ft o).1.1 ≤ L := by
      show (qOrd fd L o pt fn).1 ≤ L
      rcases hr with ⟨-, -, a3, -⟩ | ⟨-, a2, -⟩
      · rw [← a3]; exact hb
      · rw [← a2]; exact hb
    rw [fltI]
    split
    · rename_i hc
      rw [hc.1]
      by_cases h59 : nx fd L (ordS fd L pt fn ft o).1.1 = 59
      · have e : tSign fd L 59 (ordS fd L pt fn ft o).1.1 false = ((ordS fd L pt fn ft o).1.1 + 1, false) := if_neg (fun z => z.elim Bool.false_ne_true (fun z => z h59))
        rw [e, if_neg Bool.false_ne_true]
        exact ih _ _ _ _ (by have := hc.2; show (ordS fd L pt fn ft o).1.1 + 1 ≤ L; omega)
      · have e : tSign fd L 59 (ordS fd L pt fn ft o).1.1 false = ((ordS fd L pt fn ft o).1.1, true) := if_pos (Or.inr h59)
        rw [e, if_pos rfl]
        exact hs
    · exact hs
theorem flt_n6 {fd fn ft vl : Nat → Int32} {L fl : Nat} (hL : L ≤ 80) : (yF fd L 80 0 fl vl = -6) ↔ (fltR fd L fn ft).1.2.1 = false := by
  rw [flt_eq (fn := fn) (ft := ft) hL]
  have hb : (fltR fd L fn ft).1.1 ≤ L := flt_le 81 0 0 fn ft (Nat.zero_le _)
  unfold faultS
  cases hz : (fltR fd L fn ft).1.2.1 with
  | true =>
    rw [if_pos rfl]
    refine ⟨fun h => ?_, fun h => absurd h (by decide)⟩
    have := nIm (n := (fltR fd L fn ft).1.1) (by omega)
    rw [h] at this
    exact absurd (by decide) this
  | false =>
    rw [if_neg Bool.false_ne_true]
    exact ⟨fun _ => rfl, fun _ => rfl⟩
theorem slot_lt {x : Int32} (h : rng 2 x = true) : x.toNatClampNeg < 2 := by
  obtain ⟨q, hq, e⟩ := rng_nI h
  rw [e, nI_clamp (by omega)]
  exact hq
theorem len6 {L t : Nat} (hL : L ≤ 3072) (h : ¬ nI L - 6 < nI (6 * t)) (ht : t ≤ 512) : 6 * t + 6 ≤ L := by
  by_cases h6 : 6 ≤ L
  · have e : nI L - 6 = nI (L - 6) := pk_sub (a := L) (b := 6) h6
    rw [e] at h
    have := nj_nlt (a := L - 6) (b := 6 * t) (by omega) (by omega) h
    omega
  · exfalso
    apply h
    have h1 : ∀ k, k < 6 → nI k - 6 < 0 := by decide +kernel
    have h2 := h1 L (by omega)
    have h3 : (0 : Int32) ≤ nI (6 * t) := nI_ge0 (by omega)
    exact Int32.lt_of_lt_of_le h2 h3
