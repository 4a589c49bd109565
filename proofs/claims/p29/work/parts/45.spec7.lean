theorem fltI_x {fd : Nat → Int32} {L : Nat} {y : P5} (h : y.1.2.1 = true ∨ L ≤ y.1.1) : ∀ n, fltI fd L n y = y
  | 0 => rfl
  | n + 1 => by
    rw [fltI, if_neg]
    rintro ⟨h1, h2⟩
    rcases h with h | h
    · exact absurd (h.symm.trans h1) (by decide)
    · omega
theorem tSign_ok {fd : Nat → Int32} {L s : Nat} {c : Int32} {w : Bool} (h : (tSign fd L c s w).2 = false) : (tSign fd L c s w).1 = s + 1 := by
  unfold tSign at h ⊢
  split at h
  · have h2 : true = false := h
    exact absurd h2 (by decide)
  · rename_i hc
    rw [if_neg hc]
/-- a fresh order: where it ends, how many there are -/
theorem ordS_ok {fd : Nat → Int32} {L pos o : Nat} {fn ft : Nat → Int32} (h : 3 * o ≤ pos) (hw : (ordS fd L pos fn ft o).1.2.1 = false) : 3 * (ordS fd L pos fn ft o).2.2 ≤ (ordS fd L pos fn ft o).1.1 + 1 ∧ pos + 2 ≤ (ordS fd L pos fn ft o).1.1 := by
  have h2 := qOrd_2 hw
  have hw' : (qOrd fd L o pos fn).2.1 = false := hw
  have e : (ordS fd L pos fn ft o).2.2 = o + 1 := by
    show (if (qOrd fd L o pos fn).2.1 = true then o else o + 1) = o + 1
    rw [hw', if_neg Bool.false_ne_true]
  refine ⟨?_, h2⟩
  rw [e]
  show 3 * (o + 1) ≤ (qOrd fd L o pos fn).1 + 1
  omega
/-- an order carried out -/
def crS (f : Nat → Int32) (c v0 v1 v2 v3 : Int32) : Int32 × (Nat → Int32) :=
  if c = 100 then doorS f v0 v1 v2 else if c = 111 then ownS f v0 v1 else if c = 112 then passS f v0 v1 v2 else if c = 115 then stampS f v0 v1 v2 v3 else if c = 116 then takeS f v0 else comeS f v0 v1 v2
theorem cr_ok {f : Nat → Int32} {c v0 v1 v2 v3 : Int32} (h : WFx f) : WFx (crS f c v0 v1 v2 v3).2 := by
  unfold crS
  split
  · exact door_ok h
  · split
    · exact own_ok h
    · split
      · exact pass_ok h
      · split
        · exact stamp_ok h
        · split
          · exact take_ok h
          · exact come_ok h
def coI (ft fn : Nat → Int32) (o : Nat) : Nat → Nat → (Nat → Int32) → Nat × (Nat → Int32)
  | 0, m, f => (m, f)
  | n + 1, m, f => if m < o then (if 0 ≤ (crS f (ft m) (fn (4 * m)) (fn (4 * m + 1)) (fn (4 * m + 2)) (fn (4 * m + 3))).1 then coI ft fn o n (m + 1) (crS f (ft m) (fn (4 * m)) (fn (4 * m + 1)) (fn (4 * m + 2)) (fn (4 * m + 3))).2
      else (m, (crS f (ft m) (fn (4 * m)) (fn (4 * m + 1)) (fn (4 * m + 2)) (fn (4 * m + 3))).2)) else (m, f)
/-! ===== characters out of a number ===== -/
def cM : Nat → Nat → Nat → Nat
  | 0, r, m => if m = 0 ∨ ¬ r = 0 then 0 else m
  | k + 1, r, m => if ¬ r % 256 = 0 then (if 33 ≤ r % 256 ∧ r % 256 ≤ 126 then cM k (r / 256) (m + 1) else 0) else (if m = 0 ∨ ¬ r = 0 then 0 else m)
def chrB (n j : Nat) : Int32 := nI (n / 256 ^ j % 256)
/-- the pad behind put: i of many characters laid -/
def ptI (fd : Nat → Int32) (L n many i : Nat) : Nat → Int32 := fun k => if L ≤ k ∧ k < L + i then chrB n (many - 1 - (k - L)) else fd k
theorem ptI_0 (fd : Nat → Int32) (L n many : Nat) : ptI fd L n many 0 = fd := by funext k; unfold ptI; rw [if_neg (by omega)]
theorem ptI_s {fd : Nat → Int32} {L n many i : Nat} : up (ptI fd L n many i) (L + i) (chrB n (many - 1 - i)) = ptI fd L n many (i + 1) := by
  funext k
  rw [up_e]
  unfold ptI
  by_cases hk : k = L + i
  · subst hk; rw [if_pos rfl, if_pos (by omega)]; congr 1; omega
  · rw [if_neg hk]
    by_cases h2 : L ≤ k ∧ k < L + i
    · rw [if_pos h2, if_pos (by omega)]
    · rw [if_neg h2, if_neg (by omega)]
def putN (n : Nat) : Nat := cM 8 n 0
def putS (n L : Nat) : Int32 := if putN n = 0 then -2 else if 80 < L + putN n then -4 else nI (L + putN n)
def putF (fd : Nat → Int32) (n L : Nat) : Nat → Int32 := if putN n = 0 ∨ 80 < L + putN n then fd else ptI fd L n (putN n) (putN n)
def putL (n L : Nat) : Nat := if putN n = 0 ∨ 80 < L + putN n then L else L + putN n
theorem lN_255 {n : Nat} (h : n < 2 ^ 64) : lN n &&& 255 = lN (n % 256) := wb_mask (k := 8) h (by decide)
theorem lg_0 {n : Nat} (h : n < 2 ^ 64) : (lg_cmp (lN n) 0 = 0) ↔ n = 0 := by
  unfold lg_cmp
  have e0 : (0 : Int64) = lN 0 := rfl
  have inj : lN n = 0 → n = 0 := fun z => by
    have h2 := wb_tn h
    rw [z] at h2
    exact h2.symm
  by_cases hn : n = 0
  · subst hn; simp [e0]
  · have hne : ¬ lN n = 0 := fun z => hn (inj z)
    constructor
    · intro z
      by_cases hgt : lN n > 0
      · rw [if_pos hgt] at z; exact absurd z (by decide)
      · rw [if_neg hgt, if_neg hne] at z; exact absurd z (by decide)
    · intro z; exact absurd z hn
/-- the low byte of x >> s, for s to 56 -/
theorem lN_ssh {n s : Nat} (h : n < 2 ^ 64) (hs : s ≤ 56) : (lN n >>> ((nI s).toInt64 &&& 63)) &&& 255 = lN (n / 2 ^ s % 256) := by
  rw [wb_c s (by omega)]
  apply wb_inj
  rw [Int64.toBitVec_and, Int64.toBitVec_shiftRight, wb_tb, wb_tb, wb_tb, wb_sm s (by omega)]
  apply BitVec.eq_of_getLsbD_eq
  intro i hi
  rw [BitVec.getLsbD_and, BitVec.sshiftRight_eq', BitVec.toNat_ofNat, Nat.mod_eq_of_lt (by omega : s < 2 ^ 64), BitVec.getLsbD_sshiftRight]
  have e255 : ((255 : Int64).toBitVec).getLsbD i = decide (i < 8) := by
    have : (255 : Int64).toBitVec = BitVec.ofNat 64 (2 ^ 8 - 1) := rfl
    rw [this, BitVec.getLsbD_ofNat, Nat.testBit_two_pow_sub_one]
    simp [hi]
  rw [e255]
  rw [show n / 2 ^ s % 256 = n / 2 ^ s % 2 ^ 8 from rfl]
  simp only [BitVec.getLsbD_ofNat, Nat.testBit_mod_two_pow, Nat.testBit_div_two_pow]
  by_cases h8 : i < 8
  · have h1 : ¬ 64 ≤ i := by omega
    have h2 : s + i < 64 := by omega
    simp [h8, hi, h1, h2, BitVec.getLsbD_ofNat, Nat.add_comm]
  · simp [h8]
theorem qB_le1 : True := trivial
