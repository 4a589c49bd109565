/-! ===== each call with a number that is out of all ranges, on a fresh object ===== -/
theorem ch_ref {D : DT} {a : Nat → Nat} {na : Nat → Nat → Int32} {w td vl : Nat → Int32} {L pt fl : Nat} {kd : Int32} {pq ps : Nat → Option HH} {x : Int32} {v : Option Value} {w9 : va_W}
    (h : chP D a f0S na w td vl L pt fl kd 0 pq ps (x, f0S) v w9) (hx : ¬ 0 ≤ x) :
    v = some (.int x) ∧ ∃ (na' : Nat → Nat → Int32) (w' : Nat → Int32) (pq' : Nat → Option HH), AD w9 (wC D a f0S na w td vl L pt fl kd 0 pq ps) ∧ w9 = wC D a f0S na' w' td vl L pt fl kd 0 pq' ps := by
  obtain ⟨e, b9, nb, n', w', hAD, -, -, ew⟩ := h
  have ek : kU x 0 = 0 := if_neg hx
  refine ⟨e, nb, w', kV x 0 (up pq 0 (some (b9, f0S, na))), hAD, ?_⟩
  rw [ew]
  show wC D a f0S nb w' td vl L pt fl kd (kU x 0) (kV x 0 (up pq 0 (some (b9, f0S, na)))) ps = _
  rw [ek]
theorem HQ_0 {pq : Nat → Option HH} : HQ pq 0 := fun k hk => absurd hk (Nat.not_lt_zero k)
theorem HF_0 {pq : Nat → Option HH} : ∀ k, k < 0 → ∀ h : HH, pq k = some h → FB h.2.1 := fun k hk => absurd hk (Nat.not_lt_zero k)
theorem mkf0N : mkN f0S = 0 := f0_WF.N.1
theorem nn_f0 : nN f0S = 0 := f0_WF.N.2.1
theorem BAD.n {v : Int32} (h : BAD v) (k : Nat) (hk : k < 15) : ¬ v = nI k := by
  intro z
  apply h.2 (k + 6) (by omega)
  rw [z, show (6 : Int32) = nI 6 from rfl, pk_sub (by omega)]
  congr 1
theorem BAD.n6 {v : Int32} (h : BAD v) : ¬ v = -6 := h.2 0 (by omega)
theorem bd_set1 {v : Int32} (h : BAD v) : setS f0S v 1 = (-2, f0S) := by
  unfold setS
  rw [h.r 4 (by omega), Bool.false_and, if_neg Bool.false_ne_true]
theorem bd_set2 {v : Int32} (h : BAD v) : setS f0S 0 v = (-2, f0S) := by
  have h15 := h.r 15 (by omega)
  unfold rng at h15
  have h15 := of_decide_eq_false h15
  unfold setS
  rw [if_neg]
  intro z
  have z2 := of_decide_eq_true (Bool.and_eq_true_iff.mp z).2
  rw [if_pos rfl, show (hiS 0).toInt = 8 from rfl] at z2
  omega
theorem bd_own1 {v : Int32} (h : BAD v) : ownS f0S v 0 = (-1, f0S) := by
  unfold ownS
  rw [h.r 12 (by omega), Bool.false_and, if_neg Bool.false_ne_true]
theorem bd_own2 {v : Int32} (h : BAD v) : ownS f0S 0 v = (-1, f0S) := by
  unfold ownS
  rw [h.r 6 (by omega), decide_eq_false h.n6, Bool.or_false, Bool.and_false, if_neg Bool.false_ne_true]
theorem bd_st1 {v : Int32} (h : BAD v) : stampS f0S v 0 0 1 = (-1, f0S) := by
  unfold stampS
  rw [h.r 6 (by omega), Bool.false_and, if_neg Bool.false_ne_true]
theorem bd_st2 {v : Int32} (h : BAD v) : stampS f0S 0 0 v 1 = (-1, f0S) := by
  unfold stampS
  rw [h.r 12 (by omega), Bool.and_false, Bool.and_false, if_neg Bool.false_ne_true]
theorem bd_st3 {v : Int32} (h : BAD v) : stampS f0S 0 0 0 v = (-2, f0S) := by
  unfold stampS
  rw [h.rt, if_pos (by decide), if_neg Bool.false_ne_true]
theorem bd_st4 : stampS f0S 0 0 0 1 = (-5, f0S) := by
  unfold stampS
  rw [if_pos (by decide), if_pos (by decide), mkf0N, if_neg (by decide), show f0S (4 + (0 : Int32).toNatClampNeg) = -6 from f0S_mid (by decide) (by decide), if_neg (by decide)]
theorem bd_pass {v : Int32} (h : BAD v) : passS f0S v 0 1 = (-1, f0S) := by
  unfold passS
  rw [mkf0N, h.r 0 (by omega), Bool.false_and, if_neg Bool.false_ne_true]
theorem bd_fo1 {v : Int32} (h : BAD v) : forgeS f0S v 0 0 1 (-6) = (-1, f0S) := by
  unfold forgeS
  rw [h.r 6 (by omega), Bool.false_and, if_neg Bool.false_ne_true]
theorem bd_fo2 {v : Int32} (h : BAD v) : forgeS f0S 0 0 0 v (-6) = (-2, f0S) := by
  unfold forgeS
  rw [h.rt, mkf0N, if_pos (by decide), if_neg Bool.false_ne_true]
theorem bd_fo3 {v : Int32} (h : BAD v) : forgeS f0S 0 0 0 1 v = (-1, f0S) := by
  unfold forgeS
  rw [mkf0N, h.r 0 (by omega), decide_eq_false h.n6, Bool.or_false, Bool.and_false, Bool.and_false, Bool.and_false, if_neg Bool.false_ne_true]
theorem bd_take {v : Int32} (h : BAD v) : takeS f0S v = (-1, f0S) := by
  unfold takeS
  rw [mkf0N, h.r 0 (by omega), if_neg Bool.false_ne_true]
theorem bd_do1 {v : Int32} (h : BAD v) : doorS f0S v 0 (-6) = (-1, f0S) := by
  unfold doorS
  rw [h.r 6 (by omega), Bool.false_and, Bool.false_and, if_neg Bool.false_ne_true]
theorem bd_do2 {v : Int32} (h : BAD v) : doorS f0S 0 v (-6) = (-1, f0S) := by
  unfold doorS
  rw [h.r 10 (by omega), Bool.and_false, Bool.false_and, if_neg Bool.false_ne_true]
theorem bd_do3 {v : Int32} (h : BAD v) : doorS f0S 0 0 v = (-1, f0S) := by
  unfold doorS
  rw [mkf0N, h.r 0 (by omega), decide_eq_false h.n6, Bool.or_false, Bool.and_false, if_neg Bool.false_ne_true]
theorem bd_co1 {v : Int32} (h : BAD v) : comeS f0S v 0 1 = (-1, f0S) := by
  unfold comeS
  rw [h.r 6 (by omega), Bool.false_and, if_neg Bool.false_ne_true]
theorem bd_co2 {v : Int32} (h : BAD v) : comeS f0S 0 0 v = (-2, f0S) := by
  unfold comeS
  rw [if_pos (by decide), if_neg (fun z => z.elim (h.n 1 (by omega)) (h.n 2 (by omega)))]
theorem bd_pg1 {v : Int32} (h : BAD v) : ofPageS f0S v 0 = -1 := by
  unfold ofPageS
  rw [h.r 12 (by omega), if_neg Bool.false_ne_true]
theorem bd_pg2 {v : Int32} (h : BAD v) : ofPageS f0S 0 v = -2 := by
  unfold ofPageS
  rw [if_pos (by decide), if_neg (show ¬ v = 0 from h.n 0 (by omega)), if_neg (show ¬ v = 1 from h.n 1 (by omega)), if_neg (show ¬ v = 2 from h.n 2 (by omega)), if_neg (show ¬ v = 3 from h.n 3 (by omega))]
theorem bd_os {v : Int32} (h : BAD v) : ofStampS f0S v 0 = -1 := oStx mkf0N (h.r 0 (by omega))
theorem bd_ld {v : Int32} (h : BAD v) : leadsS f0S v 0 = -1 := by
  unfold leadsS
  rw [h.r 6 (by omega), Bool.false_and, if_neg Bool.false_ne_true]
theorem bd_no {v : Int32} (h : BAD v) : noteS f0S v 0 = -1 := oNtx nn_f0 (h.r 0 (by omega))
theorem bd_ct {v dm : Int32} {km : Nat} (h : BAD v) : countS f0S dm km v = -2 := by
  unfold countS
  rw [if_neg (show ¬ v = 0 from h.n 0 (by omega)), if_neg (show ¬ v = 1 from h.n 1 (by omega)), if_neg (show ¬ v = 2 from h.n 2 (by omega)), if_neg (show ¬ v = 3 from h.n 3 (by omega)), if_neg (show ¬ v = 4 from h.n 4 (by omega)), if_neg (show ¬ v = 5 from h.n 5 (by omega)), if_neg (show ¬ v = 6 from h.n 6 (by omega)), if_neg (show ¬ v = 7 from h.n 7 (by omega)), if_neg (show ¬ v = 8 from h.n 8 (by omega)), if_neg (show ¬ v = 9 from h.n 9 (by omega)), if_neg (show ¬ v = 10 from h.n 10 (by omega)), if_neg (show ¬ v = 11 from h.n 11 (by omega)), if_neg (show ¬ v = 12 from h.n 12 (by omega)), if_neg (show ¬ v = 13 from h.n 13 (by omega)), if_neg (show ¬ v = 14 from h.n 14 (by omega))]
theorem bd_en {v : Int32} (h : BAD v) : endedS f0S v = -2 := by
  unfold endedS
  rw [h.r 7 (by omega), if_neg Bool.false_ne_true]
theorem bd_wk1 {v : Int32} (h : BAD v) : walkS f0S v 0 1 0 = -1 := by
  unfold walkS
  rw [h.r 6 (by omega), Bool.false_and, if_neg Bool.false_ne_true]
theorem bd_wk2 {v : Int32} (h : BAD v) : walkS f0S 0 0 v 0 = -2 := by
  unfold walkS
  rw [if_pos (by decide), if_neg (fun z => z.1.elim (h.n 1 (by omega)) (h.n 2 (by omega)))]
theorem bd_wk3 {v : Int32} (h : BAD v) : walkS f0S 0 0 1 v = -2 := by
  unfold walkS
  rw [if_pos (by decide), if_neg (fun z => by rw [h.r 2 (by omega)] at z; exact Bool.false_ne_true z.2)]
theorem bd_hi {v : Int32} (h : BAD v) : hidesS f0S v = -1 := by
  unfold hidesS
  rw [mkf0N, h.r 0 (by omega), if_neg Bool.false_ne_true]
theorem bd_nd {v : Int32} (h : BAD v) : needlessS f0S v = -1 := by
  unfold needlessS
  rw [h.r 12 (by omega), if_neg Bool.false_ne_true]
theorem bd_lg : longestS f0S = -6 := by
  unfold longestS
  rw [mkf0N]
  rfl
theorem put_00 {td : Nat → Int32} : putS 0 0 = -2 ∧ putF td 0 0 = td ∧ putL 0 0 = 0 := ⟨if_pos rfl, if_pos (Or.inl rfl), if_pos (Or.inl rfl)⟩
theorem yf_00 {td vl : Nat → Int32} {fl : Nat} : ¬ yF td 0 80 0 fl vl = -6 := by
  rw [yF, yOrder_out (Nat.le_refl 0), if_neg Bool.false_ne_true]
  show ¬ nI 0 = -6
  decide
