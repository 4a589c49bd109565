theorem qB111 {fd : Nat → Int32} {L o : Nat} {x : P3} : qBehind fd L o 111 x = qNoOr fd L o 1 (qOne fd L o 1 48 53) (qSign fd L 61 (qNum fd L o 0 x)) := by simp [qBehind]
theorem qB115 {fd : Nat → Int32} {L o : Nat} {x : P3} : qBehind fd L o 115 x = qGiving fd L o x := by simp [qBehind]
theorem qB112 {fd : Nat → Int32} {L o : Nat} {x : P3} : qBehind fd L o 112 x = qRights fd L o 2 (qOne fd L o 1 48 53 (qSign fd L 62 (qNum fd L o 0 x))) := by simp [qBehind]
theorem qB116 {fd : Nat → Int32} {L o : Nat} {x : P3} : qBehind fd L o 116 x = qNum fd L o 0 x := by simp [qBehind]
theorem qB100 {fd : Nat → Int32} {L o : Nat} {x : P3} : qBehind fd L o 100 x = qNoOr fd L o 2 (qNum fd L o 2) (qSign fd L 61 (qGD fd L o x)) := by simp [qBehind]
theorem qBelse {fd : Nat → Int32} {L o : Nat} {c : Int32} {x : P3} (h1 : ¬ c = 100) (h2 : ¬ c = 111) (h3 : ¬ c = 112) (h4 : ¬ c = 115) (h5 : ¬ c = 116) : qBehind fd L o c x = qNeed fd L o (qGD fd L o x) := by simp [qBehind, *]
theorem qNoOr_t {fd : Nat → Int32} {L o pl : Nat} {r : P3 → P3} {x : P3} (h : tNoB fd L x.1 x.2.1 = true) : qNoOr fd L o pl r x = qNo fd L o pl x := if_pos h
theorem qNoOr_f {fd : Nat → Int32} {L o pl : Nat} {r : P3 → P3} {x : P3} (h : tNoB fd L x.1 x.2.1 = false) : qNoOr fd L o pl r x = r (qNo fd L o pl x) := if_neg (by rw [h]; exact Bool.false_ne_true)
def kindB (c : Int32) : Bool := decide (c = 111) || (decide (c = 115) || (decide (c = 112) || (decide (c = 116) || (decide (c = 100) || decide (c = 63)))))
def qOrd (fd : Nat → Int32) (L o pos : Nat) (fn : Nat → Int32) : P3 := if kindB (nx fd L pos) = true then qBehind fd L o (nx fd L pos) (pos + 1, false, fn) else (pos, true, fn)
/-- reader's state, the orders' kinds, their number -/
abbrev P5 : Type := P3 × (Nat → Int32) × Nat
def ordS (fd : Nat → Int32) (L pos : Nat) (fn ft : Nat → Int32) (o : Nat) : P5 :=
  (qOrd fd L o pos fn, if (qOrd fd L o pos fn).2.1 = true then ft else up ft o (nx fd L pos), if (qOrd fd L o pos fn).2.1 = true then o else o + 1)
def fltI (fd : Nat → Int32) (L : Nat) : Nat → P5 → P5
  | 0, y => y
  | k + 1, y => if y.1.2.1 = false ∧ y.1.1 < L then
      (if (tSign fd L 59 y.1.1 y.1.2.1).2 = true then (((tSign fd L 59 y.1.1 y.1.2.1).1, (tSign fd L 59 y.1.1 y.1.2.1).2, y.1.2.2), y.2) else fltI fd L k (ordS fd L (tSign fd L 59 y.1.1 y.1.2.1).1 y.1.2.2 y.2.1 y.2.2))
      else y
def fltR (fd : Nat → Int32) (L : Nat) (fn ft : Nat → Int32) : P5 := fltI fd L 81 (ordS fd L 0 fn ft 0)
def faultS (fd : Nat → Int32) (L : Nat) (fn ft : Nat → Int32) : Int32 := if (fltR fd L fn ft).1.2.1 = true then nI (fltR fd L fn ft).1.1 else -6
/-- a step of the reader: it goes on, or it stays wrong -/
def qMon (x y : P3) : Prop := (x.2.1 = true → y.2.1 = true) ∧ (y.2.1 = false → x.1 + 1 ≤ y.1)
theorem qSign_m {fd : Nat → Int32} {L : Nat} {c : Int32} {x : P3} : qMon x (qSign fd L c x) := by
  unfold qMon qSign tSign
  refine ⟨fun h => by rw [if_pos (Or.inl h)], fun h => ?_⟩
  split at h
  · have h2 : true = false := h
    exact absurd h2 (by decide)
  · rename_i hc; rw [if_neg hc]; exact Nat.le_refl _
theorem qOne_m {fd : Nat → Int32} {L o pl : Nat} {lo hi : Int32} {x : P3} : qMon x (qOne fd L o pl lo hi x) := by
  unfold qMon qOne tOne
  refine ⟨fun h => by rw [if_pos (Or.inl h)], fun h => ?_⟩
  split at h
  · have h2 : true = false := h
    exact absurd h2 (by decide)
  · rename_i hc; rw [if_neg hc]; exact Nat.le_refl _
theorem qNeed_m {fd : Nat → Int32} {L o : Nat} {x : P3} : qMon x (qNeed fd L o x) := by
  unfold qMon qNeed tNeed
  refine ⟨fun h => by rw [if_pos (Or.inl h)], fun h => ?_⟩
  split at h
  · have h2 : true = false := h
    exact absurd h2 (by decide)
  · rename_i hc; rw [if_neg hc]; exact Nat.le_refl _
theorem qNum_m {fd : Nat → Int32} {L o pl : Nat} {x : P3} : qMon x (qNum fd L o pl x) := by
  unfold qMon qNum tNum
  refine ⟨fun h => by rw [if_pos (Or.inl h)], fun h => ?_⟩
  split at h
  · have h2 : true = false := h
    exact absurd h2 (by decide)
  · rename_i hc
    rw [if_neg hc]
    split
    · exact Nat.le_refl _
    · show x.1 + 1 ≤ x.1 + 2
      omega
theorem qMon.trans {x y z : P3} (h1 : qMon x y) (h2 : qMon y z) : qMon x z := ⟨fun h => h2.1 (h1.1 h), fun h => by
  have hy : y.2.1 = false := by
    cases hh : y.2.1 with
    | false => rfl
    | true => exact absurd ((h2.1 hh).symm.trans h) (by decide)
  have := h1.2 hy
  have := h2.2 h
  omega⟩
theorem qNoOr_m {fd : Nat → Int32} {L o pl : Nat} {r : P3 → P3} {x : P3} (hr : ∀ x, qMon x (r x)) : qMon x (qNoOr fd L o pl r x) := by
  cases hb : tNoB fd L x.1 x.2.1 with
  | true =>
    rw [qNoOr_t hb]
    unfold qNo tNo
    rw [hb, if_pos rfl]
    exact ⟨fun h => h, fun _ => Nat.le_refl _⟩
  | false =>
    rw [qNoOr_f hb]
    have e : qNo fd L o pl x = x := by
      unfold qNo tNo
      rw [hb, if_neg Bool.false_ne_true]
    rw [e]
    exact hr x
theorem qGD_m {fd : Nat → Int32} {L o : Nat} {x : P3} : qMon x (qGD fd L o x) := qOne_m.trans (qSign_m.trans qOne_m)
theorem qRights_m {fd : Nat → Int32} {L o pl : Nat} {x : P3} : qMon x (qRights fd L o pl x) := qSign_m.trans qOne_m
theorem qBehind_m {fd : Nat → Int32} {L o : Nat} {c : Int32} {x : P3} : qMon x (qBehind fd L o c x) := by
  unfold qBehind
  split
  · exact qNum_m.trans (qSign_m.trans (qNoOr_m fun _ => qOne_m))
  · split
    · exact qOne_m.trans (qSign_m.trans (qOne_m.trans (qSign_m.trans (qNum_m.trans qRights_m))))
    · split
      · exact qNum_m.trans (qSign_m.trans (qOne_m.trans qRights_m))
      · split
        · exact qNum_m
        · split
          · exact qGD_m.trans (qSign_m.trans (qNoOr_m fun _ => qNum_m))
          · exact qGD_m.trans qNeed_m
theorem qOrd_2 {fd : Nat → Int32} {L o pos : Nat} {fn : Nat → Int32} (h : (qOrd fd L o pos fn).2.1 = false) : pos + 2 ≤ (qOrd fd L o pos fn).1 := by
  unfold qOrd at h ⊢
  split at h
  · rename_i hk
    rw [if_pos hk]
    exact (qBehind_m (x := (pos + 1, false, fn))).2 h
  · have h2 : true = false := h
    exact absurd h2 (by decide)
