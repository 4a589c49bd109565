theorem wB_c91 {D : DT} {a : Nat → Nat} {f f' : Nat → Int32} {na : Nat → Nat → Int32} {w td vl : Nat → Int32} {L pt fl : Nat} {kd : Int32} {kp : Nat} {fq fs : Nat → Option Nat} {tl : va_W} (h : ∀ m, m < 91 ∨ 127 ≤ m → f m = f' m) : wB D a f na w td vl L pt fl kd kp fq fs tl = wB D a f' na w td vl L pt fl kd kp fq fs tl := by
  unfold wB
  rw [wHW_c h]
theorem kU_le {x : Int32} {kp : Nat} (h : kp ≤ 6) : kU x kp ≤ 6 := by
  unfold kU kN
  split
  · split <;> omega
  · exact h
/-- what a change leaves of the class's object: the state before is kept if it is no error -/
def chP (D : DT) (a : Nat → Nat) (f : Nat → Int32) (na : Nat → Nat → Int32) (w td vl : Nat → Int32) (L pt fl : Nat) (kd : Int32) (kp : Nat) (pq ps : Nat → Option HH) (r : Int32 × (Nat → Int32)) : Option Value → va_W → Prop := fun v w9 =>
  v = some (.int r.1) ∧ ∃ (b0 : Nat → Nat) (nb : Nat → Nat → Int32) (n' : Nat) (w' : Nat → Int32), AD w9 (wC D a f na w td vl L pt fl kd kp pq ps) ∧ NR r.2 nb n' ∧ r.2 90 = nI n' ∧ w9 = wC D a r.2 nb w' td vl L pt fl kd (kU r.1 kp) (kV r.1 kp (up pq kp (some (b0, f, na)))) ps
/-- the orders carried out, one after the other, from a place of the text on -/
def cyI (td : Nat → Int32) (L : Nat) : Nat → Nat → Nat → Nat → (Nat → Int32) → (Nat → Int32) → Nat × (Nat → Int32)
  | 0, c, _, _, _, f => (c, f)
  | k + 1, c, pt, fl, vl, f =>
    if (yOrder td L pt fl vl).1 = true then
      (if 0 ≤ (crS f (td pt) ((yOrder td L pt fl vl).2.2.2 0) ((yOrder td L pt fl vl).2.2.2 1) ((yOrder td L pt fl vl).2.2.2 2) ((yOrder td L pt fl vl).2.2.2 3)).1 then
        cyI td L k (c + 1) ((yOrder td L pt fl vl).2.1 + 1) (yOrder td L pt fl vl).2.2.1 (yOrder td L pt fl vl).2.2.2 (crS f (td pt) ((yOrder td L pt fl vl).2.2.2 0) ((yOrder td L pt fl vl).2.2.2 1) ((yOrder td L pt fl vl).2.2.2 2) ((yOrder td L pt fl vl).2.2.2 3)).2
      else (c, (crS f (td pt) ((yOrder td L pt fl vl).2.2.2 0) ((yOrder td L pt fl vl).2.2.2 1) ((yOrder td L pt fl vl).2.2.2 2) ((yOrder td L pt fl vl).2.2.2 3)).2))
    else (c, f)
theorem yOrder_out {td : Nat → Int32} {L pt fl : Nat} {vl : Nat → Int32} (h : L ≤ pt) : yOrder td L pt fl vl = (false, (pt, fl, vl)) := if_pos h
theorem yOrder_kd {td : Nat → Int32} {L pt fl : Nat} {vl : Nat → Int32} (h : (yOrder td L pt fl vl).1 = true) : pt < L ∧ (td pt = 63 ∨ td pt = 100 ∨ td pt = 111 ∨ td pt = 112 ∨ td pt = 115 ∨ td pt = 116) := by
  unfold yOrder at h
  by_cases h1 : L ≤ pt
  · rw [if_pos h1] at h; exact absurd h Bool.false_ne_true
  · refine ⟨by omega, ?_⟩
    rw [if_neg h1] at h
    by_cases h2 : shN (shI (td pt)) = 0
    · rw [if_pos h2] at h; exact absurd h Bool.false_ne_true
    · apply Classical.byContradiction
      intro hn
      apply h2
      have e : shI (td pt) = 6 := by
        unfold shI
        rw [if_neg (fun z => hn (Or.inl z)), if_neg (fun z => hn (Or.inr (Or.inl z))), if_neg (fun z => hn (Or.inr (Or.inr (Or.inl z)))), if_neg (fun z => hn (Or.inr (Or.inr (Or.inr (Or.inl z))))), if_neg (fun z => hn (Or.inr (Or.inr (Or.inr (Or.inr (Or.inl z)))))), if_neg (fun z => hn (Or.inr (Or.inr (Or.inr (Or.inr (Or.inr z))))))]
      rw [e]
      rfl
