theorem wHW_q {D : DT} {a : Nat → Nat} {f : Nat → Int32} {na : Nat → Nat → Int32} {w w' : Nat → Int32} (h : w = w') : wHW D a f na w = wHW D a f na w' := by rw [h]
/-- what a change of the house leaves -/
def hPost (D : DT) (a : Nat → Nat) (r : Int32 × (Nat → Int32)) : Option Value → va_W → Prop := fun v w2 =>
  v = some (.int r.1) ∧ ∃ (nb : Nat → Nat → Int32) (n' : Nat) (w' : Nat → Int32), w2 = wHW D a r.2 nb w' ∧ NR r.2 nb n' ∧ r.2 90 = nI n'
theorem hPost_of {D : DT} {a : Nat → Nat} {r : Int32 × (Nat → Int32)} {x : Int32} {g : Nat → Int32} {nb : Nat → Nat → Int32} {n' : Nat} {w : Nat → Int32} (h : r = (x, g)) (hN : NR g nb n') (h90 : g 90 = nI n') : hPost D a r (some (.int x)) (wHW D a g nb w) := by
  subst h
  exact ⟨rfl, nb, n', w, rfl, hN, h90⟩
theorem hPost_wk {D : DT} {a : Nat → Nat} {f0 f : Nat → Int32} {x : Int32} {n : Nat} {P : Nat → Bool} {nb : Nat → Nat → Int32} {w : Nat → Int32} (hn8 : f 90 = nI n) (h8 : n ≤ 8) (hP : ∀ k, k < n → P k = goM f0 f x k) (hN : NR (wkF P f n) nb (n - cnI P n)) :
    hPost D a (wipeS f0 f x n) (some (.int (wkN P f n))) (wHW D a (wkF P f n) nb w) := by
  obtain ⟨h1, h2⟩ := wk_P (f := f) hP
  exact hPost_of (by unfold wipeS; rw [h1, h2]) hN (wkF_90 hn8 h8)
theorem goM_0 {f0 f : Nat → Int32} {x : Int32} (h : f 2 = 0) (k : Nat) : true = goM f0 f x k := by unfold goM goesM; rw [if_pos h]
theorem goM_1 {f0 f : Nat → Int32} {x : Int32} (h : f 2 = 1) (k : Nat) : decide (noteM f k 3 = x) = goM f0 f x k := by unfold goM goesM; rw [if_neg (by rw [h]; decide), if_pos h]
theorem bb_d : ∀ u v : Bool, (u && !v) = (decide (¬ b2i u = 0) && decide (b2i v = 0)) := by decide
theorem goM_2 {f0 f : Nat → Int32} {x : Int32} {mk k : Nat} (h0 : ¬ f 2 = 0) (h1 : ¬ f 2 = 1) (hno : noOK f k) (hdo : ∀ k, k < 60 → f (16 + k) = -6 ∨ ∃ s : Nat, s < mk ∧ f (16 + k) = nI s) (h40 : mk ≤ 40) :
    nlP f (mskN (fun k => gd f0 k && !gd f k) mk) k = goM f0 f x k := by
  obtain ⟨⟨g, hg, eg⟩, ⟨d, hd, ed⟩⟩ := hno
  have hl : ledBy f k = f (16 + (10 * g + d)) := nl_e (L := 0) eg ed hg hd
  unfold goM goesM
  rw [if_neg h0, if_neg h1]
  rcases hdo (10 * g + d) (by omega) with z | ⟨s, hs, z⟩
  · rw [nl_f (hl.trans z), hl.trans z, decide_eq_false (not_not_intro neg6), Bool.false_and]
  · rw [nl_t (hl.trans z) (by omega), hl.trans z, decide_eq_true (nI_pos (by omega)), Bool.true_and, nI_clamp (by omega), mskN_bit, decide_eq_true hs, Bool.true_and]
    exact bb_d _ _
theorem mkF_lo {f : Nat → Int32} {mk m : Nat} {gv hd pg rt ro fo : Int32} (h : m < 127) (h2 : m ≠ 76) : mkF f mk gv hd pg rt ro fo m = f m := by
  unfold mkF
  rw [up_n _ _ h2, up_n _ _ (by omega), up_n _ _ (by omega), up_n _ _ (by omega), up_n _ _ (by omega), up_n _ _ (by omega), up_n _ _ (by omega), up_n _ _ (by omega)]
theorem mk_one {n q : Nat} (h : q < n) : mskN (fun j => decide (j = q)) n = 2 ^ q := by
  apply Nat.eq_of_testBit_eq
  intro i
  rw [mskN_bit]
  by_cases hi : i = q
  · subst hi; rw [Nat.testBit_two_pow_self, decide_eq_true h]; simp
  · rw [Nat.testBit_two_pow_of_ne (fun z => hi z.symm)]; simp [hi]
theorem cn_one {q : Nat} : ∀ n, q < n → cnI (fun j => decide (j = q)) n = 1
  | 0, h => absurd h (Nat.not_lt_zero q)
  | n + 1, h => by
    rw [cnI]
    by_cases e : q = n
    · subst e; rw [if_pos (decide_eq_true rfl), cnI_0 (fun k hk => decide_eq_false (by omega))]
    · rw [cn_one n (by omega), if_neg (by simp; omega)]
theorem kp_one {q : Nat} : ∀ n, q < n → ∀ t, t + 1 < n → (kpL (fun j => decide (j = q)) n)[t]? = some (if t < q then t else t + 1)
  | 0, h, t, ht => by omega
  | n + 1, h, t, ht => by
    have hl := kpL_len (fun j => decide (j = q)) n
    by_cases e : q = n
    · subst e
      rw [kpL, if_pos (decide_eq_true rfl), if_pos (by omega)]
      have : ∀ n, n ≤ q → ∀ t, t < n → (kpL (fun j => decide (j = q)) n)[t]? = some t := by
        intro n
        induction n with
        | zero => intro _ t ht; omega
        | succ n ih =>
          intro hn t ht
          have hl := kpL_len (fun j => decide (j = q)) n
          rw [cnI_0 (fun k hk => decide_eq_false (by omega))] at hl
          rw [kpL, if_neg (by simp; omega)]
          by_cases ht2 : t < n
          · rw [List.getElem?_append_left (by omega)]; exact ih (by omega) t ht2
          · rw [List.getElem?_append_right (by omega), show t - (kpL (fun j => decide (j = q)) n).length = 0 from by omega]
            show some n = _
            congr 1
            omega
      exact this q (Nat.le_refl _) t (by omega)
    · rw [cn_one n (by omega)] at hl
      rw [kpL, if_neg (by simp; omega)]
      by_cases ht2 : t + 1 < n
      · rw [List.getElem?_append_left (by omega)]; exact kp_one n (by omega) t ht2
      · rw [List.getElem?_append_right (by omega), show t - (kpL (fun j => decide (j = q)) n).length = 0 from by omega, if_neg (by omega)]
        show some n = _
        congr 1
        omega
theorem mv_NR {f : Nat → Int32} {na nb : Nat → Nat → Int32} {n q : Nat} (hq : q < n) (hN : NR f na n) (hR : RM (fun j => decide (j = q)) na nb n) : NR (tkF f n q) nb (n - 1) := by
  intro t ht j hj
  rw [hR.1 t _ (kp_one n hq t (by omega)) j hj]
  by_cases h : t < q
  · rw [if_pos h, hN _ (by omega) j hj, tkF_no h hj]
  · rw [if_neg h, hN _ (by omega) j hj, tkF_eq (by omega) (by omega) hj]
theorem mv_w {f : Nat → Int32} {n q : Nat} (hq : q < n) (h9 : n ≤ 9) : ∀ m, m < 91 ∨ 127 ≤ m → up f 90 (nI (n - cnI (fun j => decide (j = q)) n)) m = tkF f n q m := by
  rw [cn_one n hq]
  intro m hm
  rw [up_e]
  by_cases h90 : m = 90
  · subst h90; rw [if_pos rfl, tkF_90]
  · rw [if_neg h90]
    rcases hm with hm | hm
    · exact (tkF_lo (by omega)).symm
    · exact (tkF_hi (by omega)).symm
theorem i2_shl {q : Nat} (h : q < 31) : (1 : Int32) <<< (nI q &&& 31) = nI (2 ^ q) := nI_1shl q (by omega)
theorem wlkI_s {f : Nat → Int32} {g nd x : Int32} {k i r : Nat} (hr : r < 2 ^ 31) : wlkI f g nd x (k + 1) (nI r) 0 i = wlkI f g nd x k (ofM f r 4) (rsnAt f r (decide (nI r = x)) g nd) (i + 1) := by
  rw [wlkI, if_pos ⟨nI_pos hr, rfl⟩, nI_clamp hr]
theorem hPost_eq {D : DT} {a : Nat → Nat} {r r' : Int32 × (Nat → Int32)} {nb : Nat → Nat → Int32} {n' : Nat} {w : Nat → Int32} (h : r = r') (hN : NR r'.2 nb n') (h90 : r'.2 90 = nI n') : hPost D a r (some (.int r'.1)) (wHW D a r'.2 nb w) := by
  subst h
  exact ⟨rfl, nb, n', w, rfl, hN, h90⟩
theorem NR_up {f : Nat → Int32} {na : Nat → Nat → Int32} {n m : Nat} {v : Int32} (hN : NR f na n) (hn : n ≤ 9) (hm : m < 91 ∨ 127 ≤ m) : NR (up f m v) na n := NR_c (fun k _ _ => (up_n _ _ (by omega)).symm) hn hN
theorem NR_mk {f : Nat → Int32} {na : Nat → Nat → Int32} {n mk : Nat} {gv hd pg rt ro fo : Int32} (hN : NR f na n) (hn : n ≤ 9) : NR (mkF f mk gv hd pg rt ro fo) na n := NR_c (fun k _ _ => (mkF_lo (by omega) (by omega)).symm) hn hN
