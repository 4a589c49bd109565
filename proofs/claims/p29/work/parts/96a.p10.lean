/-! ===== six orders by a text ===== -/
theorem or8 {n c : Nat} (hn : n < 2 ^ 56) (hc : c < 256) : (lN n <<< (((8 : Int32)).toInt64 &&& 63)) ||| (nI c).toInt64 = lN (n * 256 + c) := by
  rw [show (8 : Int32) = nI 8 from rfl, wb_shl n (by decide), i8_l c hc, wb_or (by omega) (by omega)]
  congr 1
  rw [Nat.mul_comm, ← Nat.two_pow_add_eq_or_of_lt (i := 8) (b := c) (by omega) n]
theorem cM_s {k n c m : Nat} (hc : 33 ≤ c ∧ c ≤ 126) : cM (k + 1) (n * 256 + c) m = cM k n (m + 1) := by
  rw [cM, show (n * 256 + c) % 256 = c from by omega, if_pos (by omega), if_pos hc, show (n * 256 + c) / 256 = n from by omega]
theorem cM_s0 {k c m : Nat} (hc : 33 ≤ c ∧ c ≤ 126) : cM (k + 1) c m = cM k 0 (m + 1) := by
  have := cM_s (k := k) (n := 0) (m := m) hc
  rw [Nat.zero_mul, Nat.zero_add] at this
  exact this
theorem chrB_0 {n c : Nat} (hc : c < 256) : chrB (n * 256 + c) 0 = nI c := by
  unfold chrB
  congr 1
  rw [Nat.pow_zero, Nat.div_one]
  omega
theorem chrB_s {n c j : Nat} (hc : c < 256) : chrB (n * 256 + c) (j + 1) = chrB n j := by
  unfold chrB
  rw [Nat.pow_succ, Nat.mul_comm (256 ^ j) 256, ← Nat.div_div_eq_div_mul, show (n * 256 + c) / 256 = n from by omega]
theorem chrB_1 {c : Nat} (hc : c < 256) : chrB c 0 = nI c := by
  unfold chrB
  congr 1
  rw [Nat.pow_zero, Nat.div_one]
  omega
/-- a text's characters -/
def HT (td : Nat → Int32) (l : List Nat) : Prop := ∀ k, k < l.length → td k = nI (l.getD k 0)
theorem HT_0 {td : Nat → Int32} : HT td [] := fun k hk => absurd hk (Nat.not_lt_zero k)
theorem HT_ch {td : Nat → Int32} {l : List Nat} (h : HT td l) (hl : ∀ x ∈ l, x < 256) : ∀ k, k < l.length → ∃ ch : Nat, ch < 256 ∧ td k = nI ch := fun k hk => by
  refine ⟨l.getD k 0, hl _ ?_, h k hk⟩
  rw [List.getD_eq_getElem?_getD, List.getElem?_eq_getElem hk]
  exact List.getElem_mem hk
theorem HT_put {td : Nat → Int32} {l g : List Nat} {nn L many : Nat} (h : HT td l) (hl : l.length = L) (hm : putN nn = many) (hg : g.length = many) (h0 : 0 < many) (h80 : L + many ≤ 80) (hc : ∀ j, j < many → chrB nn (many - 1 - j) = nI (g.getD j 0)) :
    HT (putF td nn L) (l ++ g) ∧ putL nn L = L + many ∧ putS nn L = nI (L + many) := by
  have hn : ¬ (putN nn = 0 ∨ 80 < L + putN nn) := by rw [hm]; omega
  refine ⟨fun k hk => ?_, ?_, ?_⟩
  · unfold putF
    rw [if_neg hn, hm]
    unfold ptI
    rw [List.length_append, hl, hg] at hk
    rw [List.getD_eq_getElem?_getD]
    by_cases hkL : L ≤ k
    · rw [if_pos ⟨hkL, by omega⟩, hc (k - L) (by omega), List.getElem?_append_right (by omega), hl, List.getD_eq_getElem?_getD]
    · rw [if_neg (by omega), h k (by omega), List.getElem?_append_left (by omega), List.getD_eq_getElem?_getD]
  · unfold putL
    rw [if_neg hn, hm]
  · unfold putS
    rw [hm, if_neg (by omega), if_neg (by omega)]
theorem HT_8 {td : Nat → Int32} {l : List Nat} {L c0 c1 c2 c3 c4 c5 c6 c7 : Nat} (h : HT td l) (hl : l.length = L) (h80 : L + 8 ≤ 80) (a0 : 33 ≤ c0 ∧ c0 ≤ 126) (a1 : 33 ≤ c1 ∧ c1 ≤ 126) (a2 : 33 ≤ c2 ∧ c2 ≤ 126) (a3 : 33 ≤ c3 ∧ c3 ≤ 126) (a4 : 33 ≤ c4 ∧ c4 ≤ 126) (a5 : 33 ≤ c5 ∧ c5 ≤ 126) (a6 : 33 ≤ c6 ∧ c6 ≤ 126) (a7 : 33 ≤ c7 ∧ c7 ≤ 126) :
    HT (putF td (((((((c0 * 256 + c1) * 256 + c2) * 256 + c3) * 256 + c4) * 256 + c5) * 256 + c6) * 256 + c7) L) (l ++ [c0, c1, c2, c3, c4, c5, c6, c7]) ∧ putL (((((((c0 * 256 + c1) * 256 + c2) * 256 + c3) * 256 + c4) * 256 + c5) * 256 + c6) * 256 + c7) L = L + 8 ∧ putS (((((((c0 * 256 + c1) * 256 + c2) * 256 + c3) * 256 + c4) * 256 + c5) * 256 + c6) * 256 + c7) L = nI (L + 8) := by
  refine HT_put h hl ?_ rfl (by decide) h80 (fun j hj => ?_)
  · unfold putN
    rw [cM_s a7, cM_s a6, cM_s a5, cM_s a4, cM_s a3, cM_s a2, cM_s a1, cM_s0 a0]
    rfl
  · rcases (show j = 0 ∨ j = 1 ∨ j = 2 ∨ j = 3 ∨ j = 4 ∨ j = 5 ∨ j = 6 ∨ j = 7 by omega) with rfl | rfl | rfl | rfl | rfl | rfl | rfl | rfl
    · exact (chrB_s (by omega)).trans ((chrB_s (by omega)).trans ((chrB_s (by omega)).trans ((chrB_s (by omega)).trans ((chrB_s (by omega)).trans ((chrB_s (by omega)).trans ((chrB_s (by omega)).trans (chrB_1 (by omega))))))))
    · exact (chrB_s (by omega)).trans ((chrB_s (by omega)).trans ((chrB_s (by omega)).trans ((chrB_s (by omega)).trans ((chrB_s (by omega)).trans ((chrB_s (by omega)).trans (chrB_0 (by omega)))))))
    · exact (chrB_s (by omega)).trans ((chrB_s (by omega)).trans ((chrB_s (by omega)).trans ((chrB_s (by omega)).trans ((chrB_s (by omega)).trans (chrB_0 (by omega))))))
    · exact (chrB_s (by omega)).trans ((chrB_s (by omega)).trans ((chrB_s (by omega)).trans ((chrB_s (by omega)).trans (chrB_0 (by omega)))))
    · exact (chrB_s (by omega)).trans ((chrB_s (by omega)).trans ((chrB_s (by omega)).trans (chrB_0 (by omega))))
    · exact (chrB_s (by omega)).trans ((chrB_s (by omega)).trans (chrB_0 (by omega)))
    · exact (chrB_s (by omega)).trans (chrB_0 (by omega))
    · exact chrB_0 (by omega)
theorem HT_4 {td : Nat → Int32} {l : List Nat} {L c0 c1 c2 c3 : Nat} (h : HT td l) (hl : l.length = L) (h80 : L + 4 ≤ 80) (a0 : 33 ≤ c0 ∧ c0 ≤ 126) (a1 : 33 ≤ c1 ∧ c1 ≤ 126) (a2 : 33 ≤ c2 ∧ c2 ≤ 126) (a3 : 33 ≤ c3 ∧ c3 ≤ 126) :
    HT (putF td (((c0 * 256 + c1) * 256 + c2) * 256 + c3) L) (l ++ [c0, c1, c2, c3]) ∧ putL (((c0 * 256 + c1) * 256 + c2) * 256 + c3) L = L + 4 ∧ putS (((c0 * 256 + c1) * 256 + c2) * 256 + c3) L = nI (L + 4) := by
  refine HT_put h hl ?_ rfl (by decide) h80 (fun j hj => ?_)
  · unfold putN
    rw [cM_s a3, cM_s a2, cM_s a1, cM_s0 a0]
    rfl
  · rcases (show j = 0 ∨ j = 1 ∨ j = 2 ∨ j = 3 by omega) with rfl | rfl | rfl | rfl
    · exact (chrB_s (by omega)).trans ((chrB_s (by omega)).trans ((chrB_s (by omega)).trans (chrB_1 (by omega))))
    · exact (chrB_s (by omega)).trans ((chrB_s (by omega)).trans (chrB_0 (by omega)))
    · exact (chrB_s (by omega)).trans (chrB_0 (by omega))
    · exact chrB_0 (by omega)
/-! the parts of an order -/
theorem yl_s {td : Nat → Int32} {L i n k : Nat} {y y' : Y3} (h : y.1 < L) (hp : yPart td L (shC i k) y = (true, y')) : yLoop td L i (n + 1) k y = yLoop td L i n (k + 1) y' := by
  rw [yLoop, if_neg (by omega), hp, if_pos rfl]
theorem dg_ok : ∀ p, p < 10 → dgB (nI (48 + p)) = true ∧ nI (48 + p) - 48 = nI p ∧ ¬ nI (48 + p) = 45 := by decide +kernel
theorem dg_05 : ∀ p, p < 6 → inB (nI (48 + p)) 48 53 = true := by decide +kernel
theorem dg_17 : ∀ p, p < 8 → 1 ≤ p → inB (nI (48 + p)) 49 55 = true := by decide +kernel
theorem dg_09 : ∀ p, p < 10 → inB (nI (48 + p)) 48 57 = true := by decide +kernel
theorem yTk {v : Int32} {k j : Nat} {vl : Nat → Int32} (hj : j < 4) : yTake v (k, j, vl) = (k + 1, j + 1, up vl j v) := by
  unfold yTake
  show (k + 1, (if j < 4 then j + 1 else j), (if j < 4 then up vl j v else vl)) = _
  rw [if_pos hj, if_pos hj]
theorem yNum_1 {td : Nat → Int32} {L k j p : Nat} {vl : Nat → Int32} (hp : p < 10) (h0 : td k = nI (48 + p)) (hj : j < 4) (h1 : L ≤ k + 1 ∨ dgB (td (k + 1)) = false) : yNum td L (k, j, vl) = (true, (k + 1, j + 1, up vl j (nI p))) := by
  obtain ⟨d1, d2, -⟩ := dg_ok p hp
  unfold yNum
  show (if dgB (td k) = true then (if (decide ((0 : Int) < (td k - 48).toInt) && (decide (k + 1 < L) && dgB (td (k + 1)))) = true then (true, yTake ((td k - 48) * 10 + (td (k + 1) - 48)) (k + 1, j, vl)) else (true, yTake (td k - 48) (k, j, vl))) else (false, (k, j, vl))) = _
  rw [h0, if_pos d1, d2, if_neg, yTk hj]
  intro z
  obtain ⟨-, z⟩ := Bool.and_eq_true_iff.mp z
  obtain ⟨z1, z2⟩ := Bool.and_eq_true_iff.mp z
  rcases h1 with y | y
  · have := of_decide_eq_true z1; omega
  · rw [y] at z2; exact Bool.false_ne_true z2
theorem yDig_1 {td : Nat → Int32} {k j p : Nat} {vl : Nat → Int32} {lo hi : Int32} (hp : p < 10) (h0 : td k = nI (48 + p)) (hj : j < 4) (hi' : inB (nI (48 + p)) lo hi = true) : yDigit td lo hi (k, j, vl) = (true, (k + 1, j + 1, up vl j (nI p))) := by
  unfold yDigit
  show (if inB (td k) lo hi = true then (true, yTake (td k - 48) (k, j, vl)) else (false, (k, j, vl))) = _
  rw [h0, if_pos hi', (dg_ok p hp).2.1, yTk hj]
theorem yp_n {td : Nat → Int32} {L k j p : Nat} {vl : Nat → Int32} {ch : Int32} (hc : ch = 110) (hp : p < 10) (h0 : td k = nI (48 + p)) (hj : j < 4) (h1 : L ≤ k + 1 ∨ dgB (td (k + 1)) = false) : yPart td L ch (k, j, vl) = (true, (k + 1, j + 1, up vl j (nI p))) := by
  subst hc
  exact yNum_1 hp h0 hj h1
theorem yOr_n {td : Nat → Int32} {r : Y3 → Bool × Y3} {k j p : Nat} {vl : Nat → Int32} (hp : p < 10) (h0 : td k = nI (48 + p)) : yOr td r (k, j, vl) = r (k, j, vl) := by
  unfold yOr
  exact if_neg (show ¬ td k = 45 from by rw [h0]; exact (dg_ok p hp).2.2)
theorem yp_N {td : Nat → Int32} {L k j p : Nat} {vl : Nat → Int32} {ch : Int32} (hc : ch = 78) (hp : p < 10) (h0 : td k = nI (48 + p)) (hj : j < 4) (h1 : L ≤ k + 1 ∨ dgB (td (k + 1)) = false) : yPart td L ch (k, j, vl) = (true, (k + 1, j + 1, up vl j (nI p))) := by
  subst hc
  exact (yOr_n (r := yNum td L) hp h0).trans (yNum_1 hp h0 hj h1)
theorem yp_G {td : Nat → Int32} {L k j p : Nat} {vl : Nat → Int32} {ch : Int32} (hc : ch = 71) (hp : p < 6) (h0 : td k = nI (48 + p)) (hj : j < 4) : yPart td L ch (k, j, vl) = (true, (k + 1, j + 1, up vl j (nI p))) := by
  subst hc
  exact (yOr_n (r := yDigit td 48 53) (by omega) h0).trans (yDig_1 (by omega) h0 hj (dg_05 p hp))
theorem yp_g {td : Nat → Int32} {L k j p : Nat} {vl : Nat → Int32} {ch : Int32} (hc : ch = 103) (hp : p < 6) (h0 : td k = nI (48 + p)) (hj : j < 4) : yPart td L ch (k, j, vl) = (true, (k + 1, j + 1, up vl j (nI p))) := by
  subst hc
  exact yDig_1 (by omega) h0 hj (dg_05 p hp)
theorem yp_f {td : Nat → Int32} {L k j p : Nat} {vl : Nat → Int32} {ch : Int32} (hc : ch = 102) (hp : 1 ≤ p ∧ p ≤ 7) (h0 : td k = nI (48 + p)) (hj : j < 4) : yPart td L ch (k, j, vl) = (true, (k + 1, j + 1, up vl j (nI p))) := by
  subst hc
  exact yDig_1 (by omega) h0 hj (dg_17 p (by omega) hp.1)
theorem yp_d {td : Nat → Int32} {L k j p : Nat} {vl : Nat → Int32} {ch : Int32} (hc : ch = 100) (hp : p < 10) (h0 : td k = nI (48 + p)) (hj : j < 4) : yPart td L ch (k, j, vl) = (true, (k + 1, j + 1, up vl j (nI p))) := by
  subst hc
  exact yDig_1 hp h0 hj (dg_09 p hp)
theorem yp_a {td : Nat → Int32} {L k j e : Nat} {vl : Nat → Int32} {ch : Int32} (hc : ch = 97) (h0 : (td k = 114 ∧ e = 1) ∨ (td k = 119 ∧ e = 2)) (hj : j < 4) : yPart td L ch (k, j, vl) = (true, (k + 1, j + 1, up vl j (nI e))) := by
  subst hc
  show yNeed td (k, j, vl) = _
  unfold yNeed
  show (if td k = 114 then (true, yTake 1 (k, j, vl)) else if td k = 119 then (true, yTake 2 (k, j, vl)) else (false, (k, j, vl))) = _
  rcases h0 with ⟨h1, rfl⟩ | ⟨h1, rfl⟩
  · rw [h1, if_pos rfl, yTk hj]; rfl
  · rw [h1, if_neg (by decide), if_pos rfl, yTk hj]; rfl
theorem yp_i {td : Nat → Int32} {L k j : Nat} {vl : Nat → Int32} {ch : Int32} (hc : ch = 61 ∨ ch = 62 ∨ ch = 58 ∨ ch = 42 ∨ ch = 46) (h0 : td k = ch) : yPart td L ch (k, j, vl) = (true, (k + 1, j, vl)) := by
  have e : yPart td L ch (k, j, vl) = yItself td ch (k, j, vl) := by rcases hc with rfl | rfl | rfl | rfl | rfl <;> rfl
  rw [e]
  exact if_pos h0
theorem yo_own {td : Nat → Int32} {L pt fl p o : Nat} {vl : Nat → Int32} (hL : pt + 3 < L) (h0 : td pt = 111) (hp : p < 10) (h1 : td (pt + 1) = nI (48 + p)) (h2 : td (pt + 2) = 61) (ho : o < 6) (h3 : td (pt + 3) = nI (48 + o)) : yOrder td L pt fl vl = (true, (pt + 4, 2, up (up vl 0 (nI p)) 1 (nI o))) := by
  unfold yOrder
  rw [if_neg (by omega), h0, show shI 111 = 0 from by decide, if_neg (by decide)]
  show yLoop td L 0 3 0 (pt + 1, 0, vl) = _
  rw [yl_s (show pt + 1 < L by omega) (yp_n rfl hp h1 (by omega) (Or.inr (by rw [h2]; decide))), yl_s (show pt + 2 < L by omega) (yp_i (Or.inl rfl) h2), yl_s (show pt + 3 < L by omega) (yp_G rfl ho h3 (by omega))]
  rfl
theorem yo_stamp {td : Nat → Int32} {L pt fl o t p r : Nat} {vl : Nat → Int32} (hL : pt + 7 < L) (h0 : td pt = 115) (ho : o < 6) (h1 : td (pt + 1) = nI (48 + o)) (h2 : td (pt + 2) = 62) (ht : t < 6) (h3 : td (pt + 3) = nI (48 + t)) (h4 : td (pt + 4) = 58) (hp : p < 10) (h5 : td (pt + 5) = nI (48 + p)) (h6 : td (pt + 6) = 42) (hr : 1 ≤ r ∧ r ≤ 7) (h7 : td (pt + 7) = nI (48 + r)) :
    yOrder td L pt fl vl = (true, (pt + 8, 4, up (up (up (up vl 0 (nI o)) 1 (nI t)) 2 (nI p)) 3 (nI r))) := by
  unfold yOrder
  rw [if_neg (by omega), h0, show shI 115 = 1 from by decide, if_neg (by decide)]
  show yLoop td L 1 7 0 (pt + 1, 0, vl) = _
  rw [yl_s (show pt + 1 < L by omega) (yp_g rfl ho h1 (by omega)), yl_s (show pt + 2 < L by omega) (yp_i (Or.inr (Or.inl rfl)) h2), yl_s (show pt + 3 < L by omega) (yp_g rfl ht h3 (by omega)), yl_s (show pt + 4 < L by omega) (yp_i (Or.inr (Or.inr (Or.inl rfl))) h4), yl_s (show pt + 5 < L by omega) (yp_n rfl hp h5 (by omega) (Or.inr (by rw [h6]; decide))), yl_s (show pt + 6 < L by omega) (yp_i (Or.inr (Or.inr (Or.inr (Or.inl rfl)))) h6), yl_s (show pt + 7 < L by omega) (yp_f rfl hr h7 (by omega))]
  rfl
theorem yo_pass {td : Nat → Int32} {L pt fl t o r : Nat} {vl : Nat → Int32} (hL : pt + 5 < L) (h0 : td pt = 112) (ht : t < 10) (h1 : td (pt + 1) = nI (48 + t)) (h2 : td (pt + 2) = 62) (ho : o < 6) (h3 : td (pt + 3) = nI (48 + o)) (h4 : td (pt + 4) = 42) (hr : 1 ≤ r ∧ r ≤ 7) (h5 : td (pt + 5) = nI (48 + r)) :
    yOrder td L pt fl vl = (true, (pt + 6, 3, up (up (up vl 0 (nI t)) 1 (nI o)) 2 (nI r))) := by
  unfold yOrder
  rw [if_neg (by omega), h0, show shI 112 = 2 from by decide, if_neg (by decide)]
  show yLoop td L 2 5 0 (pt + 1, 0, vl) = _
  rw [yl_s (show pt + 1 < L by omega) (yp_n rfl ht h1 (by omega) (Or.inr (by rw [h2]; decide))), yl_s (show pt + 2 < L by omega) (yp_i (Or.inr (Or.inl rfl)) h2), yl_s (show pt + 3 < L by omega) (yp_g rfl ho h3 (by omega)), yl_s (show pt + 4 < L by omega) (yp_i (Or.inr (Or.inr (Or.inr (Or.inl rfl)))) h4), yl_s (show pt + 5 < L by omega) (yp_f rfl hr h5 (by omega))]
  rfl
theorem yo_door {td : Nat → Int32} {L pt fl g d t : Nat} {vl : Nat → Int32} (hL : pt + 5 < L) (h0 : td pt = 100) (hg : g < 6) (h1 : td (pt + 1) = nI (48 + g)) (h2 : td (pt + 2) = 46) (hd : d < 10) (h3 : td (pt + 3) = nI (48 + d)) (h4 : td (pt + 4) = 61) (ht : t < 10) (h5 : td (pt + 5) = nI (48 + t)) (h6 : td (pt + 6) = 59) :
    yOrder td L pt fl vl = (true, (pt + 6, 3, up (up (up vl 0 (nI g)) 1 (nI d)) 2 (nI t))) := by
  unfold yOrder
  rw [if_neg (by omega), h0, show shI 100 = 4 from by decide, if_neg (by decide)]
  show yLoop td L 4 5 0 (pt + 1, 0, vl) = _
  rw [yl_s (show pt + 1 < L by omega) (yp_g rfl hg h1 (by omega)), yl_s (show pt + 2 < L by omega) (yp_i (Or.inr (Or.inr (Or.inr (Or.inr rfl)))) h2), yl_s (show pt + 3 < L by omega) (yp_d rfl hd h3 (by omega)), yl_s (show pt + 4 < L by omega) (yp_i (Or.inl rfl) h4), yl_s (show pt + 5 < L by omega) (yp_N rfl ht h5 (by omega) (Or.inr (by rw [h6]; decide)))]
  rfl
theorem yo_come {td : Nat → Int32} {L pt fl g d e : Nat} {vl : Nat → Int32} (hL : pt + 4 < L) (h0 : td pt = 63) (hg : g < 6) (h1 : td (pt + 1) = nI (48 + g)) (h2 : td (pt + 2) = 46) (hd : d < 10) (h3 : td (pt + 3) = nI (48 + d)) (h4 : (td (pt + 4) = 114 ∧ e = 1) ∨ (td (pt + 4) = 119 ∧ e = 2)) :
    yOrder td L pt fl vl = (true, (pt + 5, 3, up (up (up vl 0 (nI g)) 1 (nI d)) 2 (nI e))) := by
  unfold yOrder
  rw [if_neg (by omega), h0, show shI 63 = 5 from by decide, if_neg (by decide)]
  show yLoop td L 5 4 0 (pt + 1, 0, vl) = _
  rw [yl_s (show pt + 1 < L by omega) (yp_g rfl hg h1 (by omega)), yl_s (show pt + 2 < L by omega) (yp_i (Or.inr (Or.inr (Or.inr (Or.inr rfl)))) h2), yl_s (show pt + 3 < L by omega) (yp_d rfl hd h3 (by omega)), yl_s (show pt + 4 < L by omega) (yp_a rfl h4 (by omega))]
  rfl
theorem yo_take {td : Nat → Int32} {L pt fl t : Nat} {vl : Nat → Int32} (hL : pt + 2 = L) (h0 : td pt = 116) (ht : t < 10) (h1 : td (pt + 1) = nI (48 + t)) : yOrder td L pt fl vl = (true, (pt + 2, 1, up vl 0 (nI t))) := by
  unfold yOrder
  rw [if_neg (by omega), h0, show shI 116 = 3 from by decide, if_neg (by decide)]
  show yLoop td L 3 1 0 (pt + 1, 0, vl) = _
  rw [yl_s (show pt + 1 < L by omega) (yp_n rfl ht h1 (by omega) (Or.inl (by omega)))]
  rfl
theorem cy_s {td : Nat → Int32} {L k c pt fl pt' fl' : Nat} {vl vl' f : Nat → Int32} (h : yOrder td L pt fl vl = (true, (pt', fl', vl'))) : cyI td L (k + 1) c pt fl vl f = if 0 ≤ (crS f (td pt) (vl' 0) (vl' 1) (vl' 2) (vl' 3)).1 then cyI td L k (c + 1) (pt' + 1) fl' vl' (crS f (td pt) (vl' 0) (vl' 1) (vl' 2) (vl' 3)).2 else (c, (crS f (td pt) (vl' 0) (vl' 1) (vl' 2) (vl' 3)).2) := by
  rw [cyI, h, if_pos rfl]
theorem yf_s {td : Nat → Int32} {L k pt fl pt' fl' : Nat} {vl vl' : Nat → Int32} (h : yOrder td L pt fl vl = (true, (pt', fl', vl'))) (hl : pt' < L) (h59 : td pt' = 59) : yF td L (k + 1) pt fl vl = yF td L k (pt' + 1) fl' vl' := by
  rw [yF, h, if_pos rfl, if_neg (show ¬ L ≤ pt' by omega), if_pos h59]
theorem yf_e {td : Nat → Int32} {L k pt fl pt' fl' : Nat} {vl vl' : Nat → Int32} (h : yOrder td L pt fl vl = (true, (pt', fl', vl'))) (hl : L ≤ pt') : yF td L (k + 1) pt fl vl = -6 := by
  rw [yF, h, if_pos rfl, if_pos hl]
/-- calls made until one is refused -/
def txI : List ((Nat → Int32) → Int32 × (Nat → Int32)) → Nat → (Nat → Int32) → Nat × (Nat → Int32)
  | [], c, f => (c, f)
  | g :: r, c, f => if 0 ≤ (g f).1 then txI r (c + 1) (g f).2 else (c, (g f).2)
def txL (p o t r q x w d y e : Nat) : List ((Nat → Int32) → Int32 × (Nat → Int32)) := [fun f => ownS f (nI p) (nI o), fun f => stampS f (nI o) (nI t) (nI p) (nI r), fun f => passS f (nI q) (nI x) (nI w), fun f => doorS f (nI x) (nI d) (nI y), fun f => comeS f (nI x) (nI d) (nI e), fun f => takeS f (nI q)]
def txC (p o t r q x w d y : Nat) (ec : Nat) : List Nat := [111, 48 + p, 61, 48 + o, 59, 115, 48 + o, 62] ++ [48 + t, 58, 48 + p, 42, 48 + r, 59, 112, 48 + q] ++ [62, 48 + x, 42, 48 + w, 59, 100, 48 + x, 46] ++ [48 + d, 61, 48 + y, 59, 63, 48 + x, 46, 48 + d] ++ [ec, 59, 116, 48 + q]
theorem tx_eq {td : Nat → Int32} {p o t r q x w d y e ec : Nat} (h : HT td (txC p o t r q x w d y ec)) (hp : p < 10) (ho : o < 6) (ht : t < 6) (hr : 1 ≤ r ∧ r ≤ 7) (hq : q < 10) (hx : x < 6) (hw : 1 ≤ w ∧ w ≤ 7) (hd : d < 3) (hy : y < 10) (he : (ec = 114 ∧ e = 1) ∨ (ec = 119 ∧ e = 2)) :
    (∀ fl vl, yF td 36 80 0 fl vl = -6) ∧ ∀ fl vl f, cyI td 36 80 0 0 fl vl f = txI (txL p o t r q x w d y e) 0 f := by
  have h0 : ∀ k, k < 36 → td k = nI ((txC p o t r q x w d y ec).getD k 0) := fun k hk => h k hk
  have a1 : ∀ fl vl, yOrder td 36 0 fl vl = (true, (4, 2, up (up vl 0 (nI p)) 1 (nI o))) := fun fl vl => yo_own (by omega) (h0 0 (by omega)) hp (h0 1 (by omega)) (h0 2 (by omega)) ho (h0 3 (by omega))
  have a2 : ∀ fl vl, yOrder td 36 5 fl vl = (true, (13, 4, up (up (up (up vl 0 (nI o)) 1 (nI t)) 2 (nI p)) 3 (nI r))) := fun fl vl => yo_stamp (by omega) (h0 5 (by omega)) ho (h0 6 (by omega)) (h0 7 (by omega)) ht (h0 8 (by omega)) (h0 9 (by omega)) hp (h0 10 (by omega)) (h0 11 (by omega)) hr (h0 12 (by omega))
  have a3 : ∀ fl vl, yOrder td 36 14 fl vl = (true, (20, 3, up (up (up vl 0 (nI q)) 1 (nI x)) 2 (nI w))) := fun fl vl => yo_pass (by omega) (h0 14 (by omega)) hq (h0 15 (by omega)) (h0 16 (by omega)) hx (h0 17 (by omega)) (h0 18 (by omega)) hw (h0 19 (by omega))
  have a4 : ∀ fl vl, yOrder td 36 21 fl vl = (true, (27, 3, up (up (up vl 0 (nI x)) 1 (nI d)) 2 (nI y))) := fun fl vl => yo_door (by omega) (h0 21 (by omega)) hx (h0 22 (by omega)) (h0 23 (by omega)) (by omega) (h0 24 (by omega)) (h0 25 (by omega)) hy (h0 26 (by omega)) (h0 27 (by omega))
  have a5 : ∀ fl vl, yOrder td 36 28 fl vl = (true, (33, 3, up (up (up vl 0 (nI x)) 1 (nI d)) 2 (nI e))) := fun fl vl => yo_come (by omega) (h0 28 (by omega)) hx (h0 29 (by omega)) (h0 30 (by omega)) (by omega) (h0 31 (by omega)) (by rcases he with ⟨rfl, rfl⟩ | ⟨rfl, rfl⟩; exact Or.inl ⟨h0 32 (by omega), rfl⟩; exact Or.inr ⟨h0 32 (by omega), rfl⟩)
  have a6 : ∀ fl vl, yOrder td 36 34 fl vl = (true, (36, 1, up vl 0 (nI q))) := fun fl vl => yo_take rfl (h0 34 (by omega)) hq (h0 35 (by omega))
  refine ⟨fun fl vl => ?_, fun fl vl f => ?_⟩
  · exact (yf_s (a1 _ _) (by omega) (h0 4 (by omega))).trans ((yf_s (a2 _ _) (by omega) (h0 13 (by omega))).trans ((yf_s (a3 _ _) (by omega) (h0 20 (by omega))).trans ((yf_s (a4 _ _) (by omega) (h0 27 (by omega))).trans ((yf_s (a5 _ _) (by omega) (h0 33 (by omega))).trans (yf_e (a6 _ _) (by omega))))))
  · unfold txL
    rw [cy_s (a1 _ _), show td 0 = 111 from h0 0 (by omega), txI]
    show (if 0 ≤ (ownS f (nI p) (nI o)).1 then cyI td 36 79 1 5 _ _ (ownS f (nI p) (nI o)).2 else (0, (ownS f (nI p) (nI o)).2)) = _
    split
    · rw [cy_s (a2 _ _), show td 5 = 115 from h0 5 (by omega), txI]
      show (if 0 ≤ (stampS _ (nI o) (nI t) (nI p) (nI r)).1 then cyI td 36 78 2 14 _ _ (stampS _ (nI o) (nI t) (nI p) (nI r)).2 else (1, (stampS _ (nI o) (nI t) (nI p) (nI r)).2)) = _
      split
      · rw [cy_s (a3 _ _), show td 14 = 112 from h0 14 (by omega), txI]
        show (if 0 ≤ (passS _ (nI q) (nI x) (nI w)).1 then cyI td 36 77 3 21 _ _ (passS _ (nI q) (nI x) (nI w)).2 else (2, (passS _ (nI q) (nI x) (nI w)).2)) = _
        split
        · rw [cy_s (a4 _ _), show td 21 = 100 from h0 21 (by omega), txI]
          show (if 0 ≤ (doorS _ (nI x) (nI d) (nI y)).1 then cyI td 36 76 4 28 _ _ (doorS _ (nI x) (nI d) (nI y)).2 else (3, (doorS _ (nI x) (nI d) (nI y)).2)) = _
          split
          · rw [cy_s (a5 _ _), show td 28 = 63 from h0 28 (by omega), txI]
            show (if 0 ≤ (comeS _ (nI x) (nI d) (nI e)).1 then cyI td 36 75 5 34 _ _ (comeS _ (nI x) (nI d) (nI e)).2 else (4, (comeS _ (nI x) (nI d) (nI e)).2)) = _
            split
            · rw [cy_s (a6 _ _), show td 34 = 116 from h0 34 (by omega), txI]
              show (if 0 ≤ (takeS _ (nI q)).1 then cyI td 36 74 6 37 _ _ (takeS _ (nI q)).2 else (5, (takeS _ (nI q)).2)) = _
              split
              · rw [txI, cyI, yOrder_out (by omega), if_neg Bool.false_ne_true]
              · rfl
            · rfl
          · rfl
        · rfl
      · rfl
    · rfl
