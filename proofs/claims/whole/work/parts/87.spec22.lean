/-! ===== both sides in step ===== -/
def PAST (pq : Nat → Option HH) (fp : Nat → Int32) (i1 kp : Nat) : Prop := ∀ k, k < kp → ∃ h : HH, pq k = some h ∧ (∀ m, m < 407 → h.2.1 m = fp (407 * ((i1 + k) % 6) + m)) ∧ WFx h.2.1 ∧ FB h.2.1 ∧ NRx h.2.1 h.2.2
def SLOT (ps : Nat → Option HH) (sv : Nat → Bool) (fs : Nat → Int32) : Prop := ∀ q, q < 2 → (sv q = false → ps q = none) ∧ (sv q = true → ∃ h : HH, ps q = some h ∧ (∀ m, m < 407 → h.2.1 m = fs (407 * q + m)) ∧ WFx h.2.1 ∧ FB h.2.1 ∧ NRx h.2.1 h.2.2)
def INV (f : Nat → Int32) (na : Nat → Nat → Int32) (td : Nat → Int32) (Lp kp km : Nat) (pq ps : Nat → Option HH) (fp fs fv : Nat → Int32) (i1 : Nat) (sv : Nat → Bool) : Prop :=
  WFx f ∧ NRx f na ∧ FB f ∧ Lp ≤ 80 ∧ (∀ k, k < Lp → ∃ ch : Nat, ch < 256 ∧ td k = nI ch) ∧ kp ≤ 6 ∧ km = kp ∧ i1 < 6 ∧ PAST pq fp i1 kp ∧ SLOT ps sv fs ∧ ∀ q, q < 2 → fv q = b2i (sv q)
theorem NRx_c {f g : Nat → Int32} {na : Nat → Nat → Int32} (hx : WFx f) (h : ∀ m, m < 407 → g m = f m) (hN : NRx f na) : NRx g na := by
  obtain ⟨mk, n, b, hW⟩ := hx
  have hn : n ≤ b := hW.2.2.2.2.2.2.1
  have hb : b ≤ 8 := hW.2.2.2.2.2.1
  exact ⟨n, NR_c4 (by omega) h (hN.to hW), by rw [h 90 (by omega)]; exact hW.2.2.1⟩
theorem WFx_c {f g : Nat → Int32} (h : ∀ m, m < 407 → g m = f m) (hx : WFx f) : WFx g := by
  obtain ⟨mk, n, b, hW⟩ := hx
  exact ⟨mk, n, b, WF_c h hW⟩
theorem PAST.hqs {pq : Nat → Option HH} {fp : Nat → Int32} {i1 kp : Nat} (h : PAST pq fp i1 kp) : HQ pq kp := fun k hk => by
  obtain ⟨g, h1, -⟩ := h k hk
  exact ⟨g, h1⟩
theorem PAST.fbs {pq : Nat → Option HH} {fp : Nat → Int32} {i1 kp : Nat} (h : PAST pq fp i1 kp) : ∀ k, k < kp → ∀ g : HH, pq k = some g → FB g.2.1 := fun k hk g hg => by
  obtain ⟨g', h1, -, -, h4, -⟩ := h k hk
  cases hg.symm.trans h1
  exact h4
theorem SLOT.fbs {ps : Nat → Option HH} {sv : Nat → Bool} {fs : Nat → Int32} (h : SLOT ps sv fs) : ∀ q, q < 2 → ∀ g : HH, ps q = some g → FB g.2.1 := fun q hq g hg => by
  obtain ⟨h1, h2⟩ := h q hq
  cases hs : sv q with
  | false => rw [h1 hs] at hg; cases hg
  | true =>
    obtain ⟨g', e1, -, -, e4, -⟩ := h2 hs
    cases hg.symm.trans e1
    exact e4
theorem kpF_in {f g : Nat → Int32} {pl m : Nat} (h : m < 407) : kpF f g pl (407 * pl + m) = f m := by
  unfold kpF
  rw [if_pos (by omega)]
  congr 1
  omega
theorem kpF_out {f g : Nat → Int32} {pl pl2 m : Nat} (h : m < 407) (hp : pl2 ≠ pl) : kpF f g pl (407 * pl2 + m) = g (407 * pl2 + m) := by
  unfold kpF
  rw [if_neg (by omega)]
/-- a state kept -/
theorem PAST.keep {pq : Nat → Option HH} {fp f : Nat → Int32} {na : Nat → Nat → Int32} {b : Nat → Nat} {i1 kp : Nat} (hk : kp ≤ 6) (hi : i1 < 6) (h : PAST pq fp i1 kp) (hx : WFx f) (hF : FB f) (hN : NRx f na) : PAST (kQ kp (up pq kp (some (b, f, na)))) (kF true f fp i1 kp) (kA true i1 kp) (kN kp) := by
  have hnew : ∃ g : HH, some (b, f, na) = some g ∧ g = (b, f, na) := ⟨_, rfl, rfl⟩
  unfold kQ kN
  show PAST _ (kpF f fp ((kpA i1 kp + kpB kp) % 6)) (kpA i1 kp) _
  unfold kpA kpB
  by_cases h6 : kp = 6
  · subst h6
    have n6 : ¬ (6 : Nat) < 6 := by omega
    have p6 : (6 : Nat) = 6 := rfl
    rw [if_neg n6, if_neg n6, if_pos p6, if_pos p6]
    intro k hk6
    by_cases hk5 : k = 5
    · subst hk5
      refine ⟨(b, f, na), ?_, fun m hm => ?_, hx, hF, hN⟩
      · show (if (5 : Nat) < 6 then up pq 6 (some (b, f, na)) (5 + 1) else _) = _
        rw [if_pos (by omega), up_s]
      · exact (kpF_in hm).symm
    · obtain ⟨g, e1, e2, e3⟩ := h (k + 1) (by omega)
      refine ⟨g, ?_, fun m hm => ?_, e3⟩
      · show (if k < 6 then up pq 6 (some (b, f, na)) (k + 1) else _) = _
        rw [if_pos hk6, up_n _ _ (by omega)]
        exact e1
      · rw [e2 m hm, kpF_out hm (by omega)]
        congr 3
        omega
  · have l6 : kp < 6 := by omega
    rw [if_pos l6, if_pos l6, if_neg h6, if_neg h6]
    intro k hk6
    by_cases hkk : k = kp
    · subst hkk
      exact ⟨(b, f, na), up_s _ _ _, fun m hm => (kpF_in hm).symm, hx, hF, hN⟩
    · obtain ⟨g, e1, e2, e3⟩ := h k (by omega)
      refine ⟨g, by rw [up_n _ _ hkk]; exact e1, fun m hm => ?_, e3⟩
      rw [e2 m hm, kpF_out hm (by omega)]
theorem kM_kU {x : Int32} {kp : Nat} (h : kp ≤ 6) : kM (decide (0 ≤ x) && true) kp = kU x kp := by
  unfold kM kU
  rw [Bool.and_true]
  by_cases hx : 0 ≤ x
  · rw [decide_eq_true hx, if_pos rfl, if_pos hx]
    unfold kpB kN
    split <;> split <;> omega
  · rw [decide_eq_false hx, if_neg Bool.false_ne_true, if_neg hx]
theorem kM_kN {kp : Nat} (h : kp ≤ 6) : kM true kp = kN kp := by
  unfold kM kpB kN
  rw [if_pos rfl]
  split <;> split <;> omega
theorem kN_le {kp : Nat} : kN kp ≤ 6 := by unfold kN; split <;> omega
theorem PAST.keepU {pq : Nat → Option HH} {fp f : Nat → Int32} {na : Nat → Nat → Int32} {b : Nat → Nat} {i1 kp : Nat} {x : Int32} (hk : kp ≤ 6) (hi : i1 < 6) (h : PAST pq fp i1 kp) (hx : WFx f) (hF : FB f) (hN : NRx f na) : PAST (kV x kp (up pq kp (some (b, f, na)))) (kF (decide (0 ≤ x) && true) f fp i1 kp) (kA (decide (0 ≤ x) && true) i1 kp) (kU x kp) := by
  unfold kV kU
  rw [Bool.and_true]
  by_cases hx0 : 0 ≤ x
  · rw [decide_eq_true hx0, if_pos hx0, if_pos hx0]
    exact h.keep hk hi hx hF hN
  · rw [decide_eq_false hx0, if_neg hx0, if_neg hx0]
    intro k hk6
    obtain ⟨g, e1, e2⟩ := h k hk6
    exact ⟨g, by rw [up_n _ _ (by omega)]; exact e1, e2⟩
section INVS
variable {f : Nat → Int32} {na : Nat → Nat → Int32} {td : Nat → Int32} {Lp kp km : Nat} {pq ps : Nat → Option HH} {fp fs fv : Nat → Int32} {i1 : Nat} {sv : Nat → Bool}
theorem inv_ch {r : Int32 × (Nat → Int32)} {nb : Nat → Nat → Int32} {b : Nat → Nat} (h : INV f na td Lp kp kp pq ps fp fs fv i1 sv) (hx' : WFx r.2) (hF' : FB r.2) (hN' : NRx r.2 nb) :
    INV r.2 nb td Lp (kU r.1 kp) (kM (decide (0 ≤ r.1) && true) kp) (kV r.1 kp (up pq kp (some (b, f, na)))) ps (kF (decide (0 ≤ r.1) && true) f fp i1 kp) fs fv (kA (decide (0 ≤ r.1) && true) i1 kp) sv := by
  obtain ⟨hx, hN, hF, hL, hc, hk, -, hi, hp, hs, hv⟩ := h
  exact ⟨hx', hN', hF', hL, hc, kU_le hk, kM_kU hk, kA_lt hi, hp.keepU hk hi hx hF hN, hs, hv⟩
theorem inv_pad {td' : Nat → Int32} {L' : Nat} (h : INV f na td Lp kp km pq ps fp fs fv i1 sv) (hL' : L' ≤ 80) (hc' : ∀ k, k < L' → ∃ ch : Nat, ch < 256 ∧ td' k = nI ch) : INV f na td' L' kp km pq ps fp fs fv i1 sv := by
  obtain ⟨hx, hN, hF, -, -, h6⟩ := h
  exact ⟨hx, hN, hF, hL', hc', h6⟩
theorem inv_undo {g : Nat → Int32} {nb : Nat → Nat → Int32} {b : Nat → Nat} (h : INV f na td Lp kp kp pq ps fp fs fv i1 sv) (hk0 : 0 < kp) (hg : pq (kp - 1) = some (b, g, nb)) :
    (∀ m, m < 407 → g m = unI fp f ((i1 + (kp - 1)) % 6) 407 m) ∧ INV (unI fp f ((i1 + (kp - 1)) % 6) 407) nb td Lp (kp - 1) (kp - 1) pq ps fp fs fv i1 sv := by
  obtain ⟨hx, hN, hF, hL, hc, hk, -, hi, hp, hs, hv⟩ := h
  obtain ⟨h', e1, e2, e3, e4, e5⟩ := hp (kp - 1) (by omega)
  cases hg.symm.trans e1
  have hu : ∀ m, m < 407 → g m = unI fp f ((i1 + (kp - 1)) % 6) 407 m := fun m hm => by
    unfold unI
    rw [if_pos hm]
    exact e2 m hm
  exact ⟨hu, WFx_c (fun m hm => (hu m hm).symm) e3, NRx_c e3 (fun m hm => (hu m hm).symm) e5, FB_c (fun m hm => (hu m hm).symm) e4, hL, hc, by omega, rfl, hi, fun k hk => hp k (by omega), hs, hv⟩
theorem inv_save {q : Nat} {b : Nat → Nat} (h : INV f na td Lp kp km pq ps fp fs fv i1 sv) (hq : q < 2) : INV f na td Lp kp km pq (up ps q (some (b, f, na))) fp (kpF f fs q) (up fv q 1) i1 (up sv q true) := by
  obtain ⟨hx, hN, hF, hL, hc, hk, hkm, hi, hp, hs, hv⟩ := h
  refine ⟨hx, hN, hF, hL, hc, hk, hkm, hi, hp, fun j hj => ?_, fun j hj => ?_⟩
  · by_cases e : j = q
    · subst e
      rw [up_s, up_s]
      exact ⟨fun z => absurd z (by decide), fun _ => ⟨(b, f, na), rfl, fun m hm => (kpF_in hm).symm, hx, hF, hN⟩⟩
    · rw [up_n _ _ e, up_n _ _ e]
      obtain ⟨h1, h2⟩ := hs j hj
      refine ⟨h1, fun z => ?_⟩
      obtain ⟨g, e1, e2, e3⟩ := h2 z
      exact ⟨g, e1, fun m hm => by rw [e2 m hm, kpF_out hm e], e3⟩
  · by_cases e : j = q
    · subst e; rw [up_s, up_s]; rfl
    · rw [up_n _ _ e, up_n _ _ e]; exact hv j hj
theorem inv_restore {q : Nat} {g : Nat → Int32} {nb : Nat → Nat → Int32} {b b0 : Nat → Nat} (h : INV f na td Lp kp kp pq ps fp fs fv i1 sv) (hq : q < 2) (hg : ps q = some (b, g, nb)) :
    sv q = true ∧ g 76 = fs (407 * q + 76) ∧ 0 ≤ g 76 ∧ (∀ m, m < 407 → g m = unI fs f q 407 m) ∧ INV (unI fs f q 407) nb td Lp (kU (g 76) kp) (kM true kp) (kV (g 76) kp (up pq kp (some (b0, f, na)))) ps (kF true f fp i1 kp) fs fv (kA true i1 kp) sv := by
  obtain ⟨hx, hN, hF, hL, hc, hk, -, hi, hp, hs, hv⟩ := h
  obtain ⟨h1, h2⟩ := hs q hq
  have hsv : sv q = true := by
    cases z : sv q with
    | true => rfl
    | false => rw [h1 z] at hg; cases hg
  obtain ⟨h', e1, e2, e3, e4, e5⟩ := h2 hsv
  cases hg.symm.trans e1
  have hu : ∀ m, m < 407 → g m = unI fs f q 407 m := fun m hm => by
    unfold unI
    rw [if_pos hm]
    exact e2 m hm
  have h0 : 0 ≤ g 76 := by
    obtain ⟨mk, n, bb, hW⟩ := e3
    have e : g 76 = nI mk := hW.1
    have h40 := hW.2.1
    rw [e]
    exact nI_ge0 (by omega)
  refine ⟨hsv, e2 76 (by omega), h0, hu, ?_⟩
  have eU : kU (g 76) kp = kN kp := by unfold kU; rw [if_pos h0]
  have eV : kV (g 76) kp (up pq kp (some (b0, f, na))) = kQ kp (up pq kp (some (b0, f, na))) := by unfold kV; rw [if_pos h0]
  rw [eU, eV]
  exact ⟨WFx_c (fun m hm => (hu m hm).symm) e3, NRx_c e3 (fun m hm => (hu m hm).symm) e5, FB_c (fun m hm => (hu m hm).symm) e4, hL, hc, kN_le, kM_kN hk, kA_lt hi, hp.keep hk hi hx hF hN, hs, hv⟩
theorem inv_carry {r : Nat × (Nat → Int32)} {nb : Nat → Nat → Int32} {b : Nat → Nat} (h : INV f na td Lp kp kp pq ps fp fs fv i1 sv) (h80 : r.1 ≤ 80) (hx' : WFx r.2) (hF' : FB r.2) (hN' : NRx r.2 nb) :
    INV r.2 nb td 0 (kU (nI r.1) kp) (kM true kp) (kV (nI r.1) kp (up pq kp (some (b, f, na)))) ps (kF true f fp i1 kp) fs fv (kA true i1 kp) sv := by
  obtain ⟨hx, hN, hF, hL, hc, hk, -, hi, hp, hs, hv⟩ := h
  have h0 : 0 ≤ nI r.1 := nI_ge0 (by omega)
  have eU : kU (nI r.1) kp = kN kp := by unfold kU; rw [if_pos h0]
  have eV : kV (nI r.1) kp (up pq kp (some (b, f, na))) = kQ kp (up pq kp (some (b, f, na))) := by unfold kV; rw [if_pos h0]
  rw [eU, eV]
  exact ⟨hx', hN', hF', by omega, fun k hk => absurd hk (Nat.not_lt_zero k), kN_le, kM_kN hk, kA_lt hi, hp.keep hk hi hx hF hN, hs, hv⟩
end INVS
theorem put_ok {td : Nat → Int32} {n L : Nat} (hL : L ≤ 80) (hc : ∀ k, k < L → ∃ ch : Nat, ch < 256 ∧ td k = nI ch) : putL n L ≤ 80 ∧ ∀ k, k < putL n L → ∃ ch : Nat, ch < 256 ∧ putF td n L k = nI ch := by
  unfold putL putF
  by_cases h : putN n = 0 ∨ 80 < L + putN n
  · rw [if_pos h, if_pos h]
    exact ⟨hL, hc⟩
  · rw [if_neg h, if_neg h]
    refine ⟨by omega, fun k hk => ?_⟩
    unfold ptI
    by_cases h2 : L ≤ k ∧ k < L + putN n
    · rw [if_pos h2]
      exact ⟨_, Nat.mod_lt _ (by decide), rfl⟩
    · rw [if_neg h2]
      exact hc k (by omega)
theorem lN_ex (v : Int64) : ∃ n : Nat, n < 2 ^ 64 ∧ v = lN n := by
  refine ⟨v.toBitVec.toNat, v.toBitVec.isLt, ?_⟩
  apply Int64.toBitVec_inj.mp
  apply BitVec.eq_of_toNat_eq
  show _ = (BitVec.ofNat 64 v.toBitVec.toNat).toNat
  rw [BitVec.toNat_ofNat, Nat.mod_eq_of_lt v.toBitVec.isLt]
theorem lg_self (v : Int64) : lg_cmp v v = 0 := by
  unfold lg_cmp
  by_cases h : v > v
  · exact absurd h (Int64.lt_irrefl)
  · rw [if_neg h, if_pos rfl]
