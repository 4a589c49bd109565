theorem co_hist {x : Int32} {kp : Nat} {pq : Nat → Option HH} {l : List (Nat → Int32)} {b0 : Nat → Nat} {f : Nat → Int32} {na : Nat → Nat → Int32} (h0 : 0 ≤ x) (hl : HL kp pq l) (hk : kp ≤ 6) (hF : FB f) (hN : NRx f na) :
    ∃ (kp2 : Nat) (pq2 : Nat → Option HH), kU x kp = kp2 ∧ kV x kp (up pq kp (some (b0, f, na))) = pq2 ∧ kp2 ≤ 6 ∧ HL kp2 pq2 (f :: l.take 5) := by
  refine ⟨_, _, rfl, rfl, kU_le hk, ?_⟩
  unfold kU kV
  rw [if_pos h0, if_pos h0]
  exact hl.push hk hF hN
theorem cy_ok {td : Nat → Int32} {L : Nat} : ∀ (k c pt fl : Nat) (vl f : Nat → Int32), WFx f → WFx (cyI td L k c pt fl vl f).2
  | 0, c, pt, fl, vl, f, h => h
  | k + 1, c, pt, fl, vl, f, h => by
    rw [cyI]
    split
    · split
      · exact cy_ok k _ _ _ _ _ (cr_ok h)
      · exact cr_ok h
    · exact h
theorem cy_fb {td : Nat → Int32} {L : Nat} : ∀ (k c pt fl : Nat) (vl f : Nat → Int32), WFx f → FB f → FB (cyI td L k c pt fl vl f).2
  | 0, c, pt, fl, vl, f, h, hF => hF
  | k + 1, c, pt, fl, vl, f, h, hF => by
    rw [cyI]
    split
    · split
      · exact cy_fb k _ _ _ _ _ (cr_ok h) (cr_fb h hF)
      · exact cr_fb h hF
    · exact hF
