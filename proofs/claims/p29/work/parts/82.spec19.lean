theorem nI_mod {n m : Nat} (h : nI n = nI m) (hm : m < 2 ^ 31) : m ≤ n := by
  have h1 : (nI n).toBitVec.toNat = (nI m).toBitVec.toNat := by rw [h]
  have e : ∀ k : Nat, (nI k).toBitVec.toNat = k % 2 ^ 32 := fun k => by
    show (BitVec.ofNat 32 k).toNat = _
    rw [BitVec.toNat_ofNat]
  rw [e, e, Nat.mod_eq_of_lt (by omega : m < 2 ^ 32)] at h1
  have := Nat.mod_le n (2 ^ 32)
  omega
def NRx (f : Nat → Int32) (na : Nat → Nat → Int32) : Prop := ∃ n, NR f na n ∧ f 90 = nI n
theorem NRx.to {f : Nat → Int32} {na : Nat → Nat → Int32} {mk n b : Nat} (h : NRx f na) (hW : WF f mk n b) : NR f na n := by
  obtain ⟨n', h1, h2⟩ := h
  have h3 : f 90 = nI n := hW.2.2.1
  have hb : b ≤ 8 := hW.2.2.2.2.2.1
  have hn : n ≤ b := hW.2.2.2.2.2.2.1
  have := nI_mod (h2.symm.trans h3) (by omega)
  exact fun k hk => h1 k (by omega)
theorem wB_kd {D : DT} {a : Nat → Nat} {f : Nat → Int32} {na : Nat → Nat → Int32} {w td vl : Nat → Int32} {L pt fl : Nat} {kd kd' : Int32} {kp : Nat} {fq fs : Nat → Option Nat} {tl : va_W} (h : kd = kd') : wB D a f na w td vl L pt fl kd kp fq fs tl = wB D a f na w td vl L pt fl kd' kp fq fs tl := by rw [h]
theorem c_X3_readOrder2 (l : Launch) (D : DT) (a : Nat → Nat) (td vl : Nat → Int32) (L pt fl : Nat) (kd : Int32) (hL : L ≤ 80) (hpL : pt ≤ L + 1) (hch : ∀ k, k < L → ∃ ch : Nat, ch < 256 ∧ td k = nI ch) : MW l yX3_readOrder wsX3_readOrder 5 115 0 0 D [.ref (a 20)] (wP D a td vl L pt fl kd) (fun v w2 => v = some (.int (b2i (yOrder td L pt fl vl).1)) ∧ w2 = (wP D a td (yOrder td L pt fl vl).2.2.2 L (yOrder td L pt fl vl).2.1 (yOrder td L pt fl vl).2.2.1 (if L ≤ pt then kd else td pt))) := by
  by_cases h : pt ≤ L
  · exact c_X3_readOrder l D a td vl L pt fl kd hL h hch
  · rw [yOrder_out (by omega), if_pos (by omega)]
    exact c_X3_readOrder_out l D a td vl L pt fl kd hL (by omega) (by omega)
