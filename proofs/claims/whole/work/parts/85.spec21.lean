/-! ===== orders, faults, carrying out: the class and the reference ===== -/
section RDO
variable {fd : Nat → Int32} {L o : Nat}
theorem yp71 (y : Y3) : yPart fd L 71 y = yOr fd (yDigit fd 48 53) y := by unfold yPart; rw [if_pos rfl]
theorem yp78 (y : Y3) : yPart fd L 78 y = yOr fd (yNum fd L) y := by unfold yPart; rw [if_neg (by decide), if_pos rfl]
theorem yp97 (y : Y3) : yPart fd L 97 y = yNeed fd y := by unfold yPart; rw [if_neg (by decide), if_neg (by decide), if_pos rfl]
theorem yp100 (y : Y3) : yPart fd L 100 y = yDigit fd 48 57 y := by unfold yPart; rw [if_neg (by decide), if_neg (by decide), if_neg (by decide), if_pos rfl]
theorem yp102 (y : Y3) : yPart fd L 102 y = yDigit fd 49 55 y := by unfold yPart; rw [if_neg (by decide), if_neg (by decide), if_neg (by decide), if_neg (by decide), if_pos rfl]
theorem yp103 (y : Y3) : yPart fd L 103 y = yDigit fd 48 53 y := by unfold yPart; rw [if_neg (by decide), if_neg (by decide), if_neg (by decide), if_neg (by decide), if_neg (by decide), if_pos rfl]
theorem yp110 (y : Y3) : yPart fd L 110 y = yNum fd L y := by unfold yPart; rw [if_neg (by decide), if_neg (by decide), if_neg (by decide), if_neg (by decide), if_neg (by decide), if_neg (by decide), if_pos rfl]
theorem r103 {fl : Nat} (hf : fl < 4) : PR9 fd L o fl 1 false 103 (qOne fd L o fl 48 53) := fun s g vl hs hv => by rw [yp103]; exact digit_R hf hs hv
theorem r100 {fl : Nat} (hf : fl < 4) : PR9 fd L o fl 1 false 100 (qOne fd L o fl 48 57) := fun s g vl hs hv => by rw [yp100]; exact digit_R hf hs hv
theorem r102 {fl : Nat} (hf : fl < 4) : PR9 fd L o fl 1 false 102 (qOne fd L o fl 49 55) := fun s g vl hs hv => by rw [yp102]; exact digit_R hf hs hv
theorem r110 {fl : Nat} (hf : fl < 4) : PR9 fd L o fl 1 true 110 (qNum fd L o fl) := fun s g vl hs hv => by rw [yp110]; exact num_R hf hs hv
theorem r71 {fl : Nat} (hf : fl < 4) : PR9 fd L o fl 1 false 71 (qNoOr fd L o fl (qOne fd L o fl 48 53)) := fun s g vl hs hv => by rw [yp71]; exact noOr_R hf hs hv (digit_R hf hs hv)
theorem r78 {fl : Nat} (hf : fl < 4) : PR9 fd L o fl 1 true 78 (qNoOr fd L o fl (qNum fd L o fl)) := fun s g vl hs hv => by rw [yp78]; exact noOr_R hf hs hv (num_R hf hs hv)
theorem r97 : PR9 fd L o 2 1 false 97 (qNeed fd L o) := fun s g vl hs hv => by rw [yp97]; exact need_R hs hv
def nvK (c : Int32) : Nat := if c = 111 then 2 else if c = 115 then 4 else if c = 116 then 1 else 3
theorem yR0 (y : Y3) : yLoop fd L 0 3 0 y = yRun fd L [110, 61, 71] y := rfl
theorem yR1 (y : Y3) : yLoop fd L 1 7 0 y = yRun fd L [103, 62, 103, 58, 110, 42, 102] y := rfl
theorem yR2 (y : Y3) : yLoop fd L 2 5 0 y = yRun fd L [110, 62, 103, 42, 102] y := rfl
theorem yR3 (y : Y3) : yLoop fd L 3 1 0 y = yRun fd L [110] y := rfl
theorem yR4 (y : Y3) : yLoop fd L 4 5 0 y = yRun fd L [103, 46, 100, 61, 78] y := rfl
theorem yR5 (y : Y3) : yLoop fd L 5 4 0 y = yRun fd L [103, 46, 100, 97] y := rfl
theorem sgn {c : Int32} (h : ¬ c = 71 ∧ ¬ c = 78 ∧ ¬ c = 97 ∧ ¬ c = 100 ∧ ¬ c = 102 ∧ ¬ c = 103 ∧ ¬ c = 110) (hd : dgB c = false) (h0 : ¬ c = 0) {fl : Nat} {p : Bool} {ts : List PT} (ht : PLs fd L o fl false ts) : PLs fd L o fl p ((c, qSign fd L c, 0, false) :: ts) :=
  ⟨sign_W, sign_E h0, fun _ => sign_S h hd, sign_R h, ht⟩
theorem pl111 : PLs fd L o 0 false [(110, qNum fd L o 0, 1, true), (61, qSign fd L 61, 0, false), (71, qNoOr fd L o 1 (qOne fd L o 1 48 53), 1, false)] :=
  ⟨num_W, num_E, fun h => absurd h Bool.false_ne_true, r110 (Nat.le_of_ble_eq_true rfl), sgn (by decide) (by decide) (by decide) ⟨noOr_W one_W, noOr_E (one_E (by decide)), fun h => absurd h Bool.false_ne_true, r71 (Nat.le_of_ble_eq_true rfl), trivial⟩⟩
theorem pl115 : PLs fd L o 0 false [(103, qOne fd L o 0 48 53, 1, false), (62, qSign fd L 62, 0, false), (103, qOne fd L o 1 48 53, 1, false), (58, qSign fd L 58, 0, false), (110, qNum fd L o 2, 1, true), (42, qSign fd L 42, 0, false), (102, qOne fd L o 3 49 55, 1, false)] :=
  ⟨one_W, one_E (by decide), fun h => absurd h Bool.false_ne_true, r103 (Nat.le_of_ble_eq_true rfl), sgn (by decide) (by decide) (by decide) ⟨one_W, one_E (by decide), fun h => absurd h Bool.false_ne_true, r103 (Nat.le_of_ble_eq_true rfl), sgn (by decide) (by decide) (by decide) ⟨num_W, num_E, fun h => absurd h Bool.false_ne_true, r110 (Nat.le_of_ble_eq_true rfl), sgn (by decide) (by decide) (by decide) ⟨one_W, one_E (by decide), fun h => absurd h Bool.false_ne_true, r102 (Nat.le_of_ble_eq_true rfl), trivial⟩⟩⟩⟩
theorem pl112 : PLs fd L o 0 false [(110, qNum fd L o 0, 1, true), (62, qSign fd L 62, 0, false), (103, qOne fd L o 1 48 53, 1, false), (42, qSign fd L 42, 0, false), (102, qOne fd L o 2 49 55, 1, false)] :=
  ⟨num_W, num_E, fun h => absurd h Bool.false_ne_true, r110 (Nat.le_of_ble_eq_true rfl), sgn (by decide) (by decide) (by decide) ⟨one_W, one_E (by decide), fun h => absurd h Bool.false_ne_true, r103 (Nat.le_of_ble_eq_true rfl), sgn (by decide) (by decide) (by decide) ⟨one_W, one_E (by decide), fun h => absurd h Bool.false_ne_true, r102 (Nat.le_of_ble_eq_true rfl), trivial⟩⟩⟩
theorem pl116 : PLs fd L o 0 false [(110, qNum fd L o 0, 1, true)] := ⟨num_W, num_E, fun h => absurd h Bool.false_ne_true, r110 (Nat.le_of_ble_eq_true rfl), trivial⟩
theorem pl100 : PLs fd L o 0 false [(103, qOne fd L o 0 48 53, 1, false), (46, qSign fd L 46, 0, false), (100, qOne fd L o 1 48 57, 1, false), (61, qSign fd L 61, 0, false), (78, qNoOr fd L o 2 (qNum fd L o 2), 1, true)] :=
  ⟨one_W, one_E (by decide), fun h => absurd h Bool.false_ne_true, r103 (Nat.le_of_ble_eq_true rfl), sgn (by decide) (by decide) (by decide) ⟨one_W, one_E (by decide), fun h => absurd h Bool.false_ne_true, r100 (Nat.le_of_ble_eq_true rfl), sgn (by decide) (by decide) (by decide) ⟨noOr_W num_W, noOr_E num_E, fun h => absurd h Bool.false_ne_true, r78 (Nat.le_of_ble_eq_true rfl), trivial⟩⟩⟩
theorem pl63 : PLs fd L o 0 false [(103, qOne fd L o 0 48 53, 1, false), (46, qSign fd L 46, 0, false), (100, qOne fd L o 1 48 57, 1, false), (97, qNeed fd L o, 1, false)] :=
  ⟨one_W, one_E (by decide), fun h => absurd h Bool.false_ne_true, r103 (Nat.le_of_ble_eq_true rfl), sgn (by decide) (by decide) (by decide) ⟨one_W, one_E (by decide), fun h => absurd h Bool.false_ne_true, r100 (Nat.le_of_ble_eq_true rfl), ⟨need_W, need_E, fun h => absurd h Bool.false_ne_true, r97, trivial⟩⟩⟩
theorem Rr.any {fl : Nat} {p : Bool} {yb : Bool × Y3} {x : P3} (h : Rr fd L o fl p yb x) : Rr fd L o fl true yb x := by
  rcases h with h | ⟨h1, h2, h3⟩
  · exact Or.inl h
  · exact Or.inr ⟨h1, h2, h3.imp id (fun h => ⟨rfl, h.2⟩)⟩
theorem start_rel {pt : Nat} {vl fn : Nat → Int32} : Rr fd L o 0 false (true, (pt, 0, vl)) (pt, false, fn) := Or.inl ⟨rfl, rfl, rfl, rfl, fun j hj => absurd hj (Nat.not_lt_zero j)⟩
theorem kindB_t {c : Int32} (h : c = 63 ∨ c = 100 ∨ c = 111 ∨ c = 112 ∨ c = 115 ∨ c = 116) : kindB c = true := by
  rcases h with rfl | rfl | rfl | rfl | rfl | rfl <;> decide
theorem kindB_o {c : Int32} (h : kindB c = true) : c = 63 ∨ c = 100 ∨ c = 111 ∨ c = 112 ∨ c = 115 ∨ c = 116 := by
  unfold kindB at h
  simp only [Bool.or_eq_true, decide_eq_true_eq] at h
  rcases h with h | h | h | h | h | h
  · exact Or.inr (Or.inr (Or.inl h))
  · exact Or.inr (Or.inr (Or.inr (Or.inr (Or.inl h))))
  · exact Or.inr (Or.inr (Or.inr (Or.inl h)))
  · exact Or.inr (Or.inr (Or.inr (Or.inr (Or.inr h))))
  · exact Or.inr (Or.inl h)
  · exact Or.inl h
theorem ord_rel {pt fl : Nat} {vl fn : Nat → Int32} : Rr fd L o (nvK (fd pt)) true (yOrder fd L pt fl vl) (qOrd fd L o pt fn) := by
  by_cases hL : L ≤ pt
  · rw [yOrder_out hL]
    have e : qOrd fd L o pt fn = (pt, true, fn) := by unfold qOrd; rw [nx_out hL]; rfl
    rw [e]
    exact Or.inr ⟨rfl, rfl, Or.inl rfl⟩
  · have hs : pt < L := by omega
    by_cases hk : kindB (fd pt) = true
    · have e : qOrd fd L o pt fn = qBehind fd L o (fd pt) (pt + 1, false, fn) := by unfold qOrd; rw [nx_in hs, if_pos hk]
      rw [e]
      unfold yOrder
      rw [if_neg hL]
      rcases kindB_o hk with h | h | h | h | h | h <;> rw [h]
      · rw [show shI 63 = 5 from rfl, if_neg (by decide), show shN 5 = 4 from rfl, yR5, qBelse (by decide) (by decide) (by decide) (by decide) (by decide)]
        exact (run_rel _ _ _ pl63 _ _ start_rel).any
      · rw [show shI 100 = 4 from rfl, if_neg (by decide), show shN 4 = 5 from rfl, yR4, qB100]
        exact (run_rel _ _ _ pl100 _ _ start_rel).any
      · rw [show shI 111 = 0 from rfl, if_neg (by decide), show shN 0 = 3 from rfl, yR0, qB111]
        exact (run_rel _ _ _ pl111 _ _ start_rel).any
      · rw [show shI 112 = 2 from rfl, if_neg (by decide), show shN 2 = 5 from rfl, yR2, qB112]
        exact (run_rel _ _ _ pl112 _ _ start_rel).any
      · rw [show shI 115 = 1 from rfl, if_neg (by decide), show shN 1 = 7 from rfl, yR1, qB115]
        exact (run_rel _ _ _ pl115 _ _ start_rel).any
      · rw [show shI 116 = 3 from rfl, if_neg (by decide), show shN 3 = 1 from rfl, yR3, qB116]
        exact (run_rel _ _ _ pl116 _ _ start_rel).any
    · have e : qOrd fd L o pt fn = (pt, true, fn) := by unfold qOrd; rw [nx_in hs, if_neg hk]
      rw [e]
      have hy : (yOrder fd L pt fl vl).1 = false ∧ (yOrder fd L pt fl vl).2.1 = pt := by
        have hn : ¬ (yOrder fd L pt fl vl).1 = true := fun z => hk (kindB_t (yOrder_kd z).2)
        refine ⟨Bool.eq_false_iff.mpr hn, ?_⟩
        unfold yOrder
        rw [if_neg hL, if_pos]
        apply Classical.byContradiction
        intro h2
        apply hk
        apply kindB_t
        apply Classical.byContradiction
        intro h3
        apply h2
        have e6 : shI (fd pt) = 6 := by
          unfold shI
          rw [if_neg (fun z => h3 (Or.inl z)), if_neg (fun z => h3 (Or.inr (Or.inl z))), if_neg (fun z => h3 (Or.inr (Or.inr (Or.inl z)))), if_neg (fun z => h3 (Or.inr (Or.inr (Or.inr (Or.inl z))))), if_neg (fun z => h3 (Or.inr (Or.inr (Or.inr (Or.inr (Or.inl z)))))), if_neg (fun z => h3 (Or.inr (Or.inr (Or.inr (Or.inr (Or.inr z))))))]
        rw [e6]
        rfl
      exact Or.inr ⟨rfl, hy.2, Or.inl hy.1⟩
/-- the whole text's fault -/
theorem flt_rel : ∀ (k k2 pt fl o : Nat) (vl fn ft : Nat → Int32), pt ≤ L → L - pt < 2 * k → L - pt ≤ 2 * k2 → yF fd L k pt fl vl = (if (fltI fd L k2 (ordS fd L pt fn ft o)).1.2.1 = true then nI (fltI fd L k2 (ordS fd L pt fn ft o)).1.1 else -6)
  | 0, k2, pt, fl, o, vl, fn, ft, h1, h2, h3 => absurd h2 (by omega)
  | k + 1, k2, pt, fl, o, vl, fn, ft, h1, h2, h3 => by
    have hr := ord_rel (fd := fd) (L := L) (o := o) (pt := pt) (fl := fl) (vl := vl) (fn := fn)
    rw [yF]
    rcases hr with ⟨a1, a2, a3, -, -⟩ | ⟨a1, a2, a3⟩
    · rw [if_pos a2, a3]
      have a1' : (ordS fd L pt fn ft o).1.2.1 = false := a1
      have hsp := qOrd_2 a1
      have esp : (ordS fd L pt fn ft o).1.1 = (qOrd fd L o pt fn).1 := rfl
      by_cases hL : L ≤ (qOrd fd L o pt fn).1
      · rw [if_pos hL, fltI_x (Or.inr hL), a1', if_neg Bool.false_ne_true]
      · rw [if_neg hL]
        obtain ⟨j, rfl⟩ : ∃ j, k2 = j + 1 := ⟨k2 - 1, by omega⟩
        by_cases h59 : fd (qOrd fd L o pt fn).1 = 59
        · have e : tSign fd L 59 (qOrd fd L o pt fn).1 false = ((qOrd fd L o pt fn).1 + 1, false) := if_neg (fun z => z.elim Bool.false_ne_true (fun z => z (by rw [nx_in (by omega)]; exact h59)))
          have ez : fltI fd L (j + 1) (ordS fd L pt fn ft o) = fltI fd L j (ordS fd L ((qOrd fd L o pt fn).1 + 1) (ordS fd L pt fn ft o).1.2.2 (ordS fd L pt fn ft o).2.1 (ordS fd L pt fn ft o).2.2) := by
            rw [fltI, if_pos ⟨a1', by rw [esp]; omega⟩, a1', esp, e, if_neg Bool.false_ne_true]
          rw [if_pos h59, ez]
          exact flt_rel k j _ _ _ _ _ _ (by omega) (by omega) (by omega)
        · have e : tSign fd L 59 (qOrd fd L o pt fn).1 false = ((qOrd fd L o pt fn).1, true) := if_pos (Or.inr (by rw [nx_in (by omega)]; exact h59))
          have ez : fltI fd L (j + 1) (ordS fd L pt fn ft o) = (((qOrd fd L o pt fn).1, true, (ordS fd L pt fn ft o).1.2.2), (ordS fd L pt fn ft o).2) := by
            rw [fltI, if_pos ⟨a1', by rw [esp]; omega⟩, a1', esp, e, if_pos rfl]
          rw [if_neg h59, ez, if_pos rfl]
    · have a1' : (ordS fd L pt fn ft o).1.2.1 = true := a1
      rw [fltI_x (Or.inl a1'), a1', if_pos rfl]
      rcases a3 with a3 | ⟨-, a3, a4, a5⟩
      · rw [if_neg (by rw [a3]; exact Bool.false_ne_true), a2]; rfl
      · rw [if_pos a3, a2, if_neg (by omega), if_neg (fun z => by rw [z] at a5; exact absurd a5 (by decide))]; rfl
theorem flt_eq {fn ft vl : Nat → Int32} {fl : Nat} (hL : L ≤ 80) : yF fd L 80 0 fl vl = faultS fd L fn ft := flt_rel 80 81 0 fl 0 vl fn ft (by omega) (by omega) (by omega)
-- what later orders leave alone
def PK9 (o : Nat) (q : P3 → P3) : Prop := ∀ (x : P3) (j : Nat), j < 4 * o → (q x).2.2 j = x.2.2 j
theorem k_sign {c : Int32} : PK9 o (qSign fd L c) := fun x j h => rfl
theorem k_one {pl : Nat} {lo hi : Int32} : PK9 o (qOne fd L o pl lo hi) := fun x j h => by
  unfold qOne tOne
  split
  · rfl
  · exact up_n _ _ (by omega)
theorem k_num {pl : Nat} : PK9 o (qNum fd L o pl) := fun x j h => by
  unfold qNum tNum
  split
  · rfl
  · split
    · exact up_n _ _ (by omega)
    · exact up_n _ _ (by omega)
theorem k_need : PK9 o (qNeed fd L o) := fun x j h => by
  unfold qNeed tNeed
  split
  · rfl
  · exact up_n _ _ (by omega)
theorem k_no {pl : Nat} : PK9 o (qNo fd L o pl) := fun x j h => by
  unfold qNo tNo
  split
  · exact up_n _ _ (by omega)
  · rfl
theorem k_noOr {pl : Nat} {r : P3 → P3} (hr : PK9 o r) : PK9 o (qNoOr fd L o pl r) := fun x j h => by
  unfold qNoOr
  split
  · exact k_no x j h
  · rw [hr _ j h]; exact k_no x j h
theorem k_gd : PK9 o (qGD fd L o) := fun x j h => by
  unfold qGD
  rw [k_one _ j h, k_sign _ j h, k_one _ j h]
theorem k_rights {pl : Nat} : PK9 o (qRights fd L o pl) := fun x j h => by
  unfold qRights
  rw [k_one _ j h, k_sign _ j h]
theorem k_giving : PK9 o (qGiving fd L o) := fun x j h => by
  unfold qGiving
  rw [k_rights _ j h, k_num _ j h, k_sign _ j h, k_one _ j h, k_sign _ j h, k_one _ j h]
theorem k_behind {c : Int32} : PK9 o (qBehind fd L o c) := fun x j h => by
  unfold qBehind
  split
  · rw [k_noOr k_one _ j h, k_sign _ j h, k_num _ j h]
  · split
    · exact k_giving x j h
    · split
      · rw [k_rights _ j h, k_one _ j h, k_sign _ j h, k_num _ j h]
      · split
        · exact k_num x j h
        · split
          · rw [k_noOr k_num _ j h, k_sign _ j h, k_gd _ j h]
          · rw [k_need _ j h, k_gd _ j h]
theorem ord_keep {pt : Nat} {fn ft : Nat → Int32} : o ≤ (ordS fd L pt fn ft o).2.2 ∧ (∀ j, j < o → (ordS fd L pt fn ft o).2.1 j = ft j) ∧ (∀ j, j < 4 * o → (ordS fd L pt fn ft o).1.2.2 j = fn j) := by
  refine ⟨?_, fun j hj => ?_, fun j hj => ?_⟩
  · show o ≤ (if (qOrd fd L o pt fn).2.1 = true then o else o + 1)
    split <;> omega
  · show (if (qOrd fd L o pt fn).2.1 = true then ft else up ft o (nx fd L pt)) j = ft j
    split
    · rfl
    · exact up_n _ _ (by omega)
  · show (qOrd fd L o pt fn).2.2 j = fn j
    unfold qOrd
    split
    · exact k_behind _ j hj
    · rfl
theorem flt_keep : ∀ (k2 : Nat) (y : P5), y.2.2 ≤ (fltI fd L k2 y).2.2 ∧ (∀ j, j < y.2.2 → (fltI fd L k2 y).2.1 j = y.2.1 j) ∧ (∀ j, j < 4 * y.2.2 → (fltI fd L k2 y).1.2.2 j = y.1.2.2 j)
  | 0, y => ⟨Nat.le_refl _, fun _ _ => rfl, fun _ _ => rfl⟩
  | k2 + 1, y => by
    rw [fltI]
    split
    · split
      · exact ⟨Nat.le_refl _, fun _ _ => rfl, fun _ _ => rfl⟩
      · obtain ⟨h1, h2, h3⟩ := flt_keep k2 (ordS fd L (tSign fd L 59 y.1.1 y.1.2.1).1 y.1.2.2 y.2.1 y.2.2)
        obtain ⟨g1, g2, g3⟩ := ord_keep (fd := fd) (L := L) (o := y.2.2) (pt := (tSign fd L 59 y.1.1 y.1.2.1).1) (fn := y.1.2.2) (ft := y.2.1)
        exact ⟨by omega, fun j hj => (h2 j (by omega)).trans (g2 j hj), fun j hj => (h3 j (by omega)).trans (g3 j hj)⟩
    · exact ⟨Nat.le_refl _, fun _ _ => rfl, fun _ _ => rfl⟩
theorem yOrder_b2 {pt fl : Nat} {vl : Nat → Int32} (h : pt ≤ L) : (yOrder fd L pt fl vl).2.1 ≤ L := yOrder_b h
theorem flt_num : ∀ (k pt o : Nat) (fn ft : Nat → Int32), pt ≤ L → L - pt ≤ 2 * k → (fltI fd L k (ordS fd L pt fn ft o)).1.2.1 = false → 3 * (fltI fd L k (ordS fd L pt fn ft o)).2.2 ≤ 3 * o + (L - pt) + 1 := by
  intro k
  induction k using Nat.strongRecOn with
  | _ k ih =>
  intro pt o fn ft h1 h2 hz
  have hr := ord_rel (fd := fd) (L := L) (o := o) (pt := pt) (fl := 0) (vl := fn) (fn := fn)
  rcases hr with ⟨a1, a2, a3, -, -⟩ | ⟨a1, a2, a3⟩
  · have a1' : (ordS fd L pt fn ft o).1.2.1 = false := a1
    have hsp := qOrd_2 a1
    have hle : (qOrd fd L o pt fn).1 ≤ L := by rw [← a3]; exact yOrder_b h1
    have esp : (ordS fd L pt fn ft o).1.1 = (qOrd fd L o pt fn).1 := rfl
    have eo : (ordS fd L pt fn ft o).2.2 = o + 1 := if_neg (by rw [a1]; exact Bool.false_ne_true)
    by_cases hL : L ≤ (qOrd fd L o pt fn).1
    · rw [fltI_x (Or.inr hL), eo]
      omega
    · obtain ⟨j, rfl⟩ : ∃ j, k = j + 1 := ⟨k - 1, by omega⟩
      rw [fltI, if_pos ⟨a1', by rw [esp]; omega⟩, a1', esp] at hz ⊢
      by_cases h59 : fd (qOrd fd L o pt fn).1 = 59
      · have e : tSign fd L 59 (qOrd fd L o pt fn).1 false = ((qOrd fd L o pt fn).1 + 1, false) := if_neg (fun z => z.elim Bool.false_ne_true (fun z => z (by rw [nx_in (by omega)]; exact h59)))
        rw [e, if_neg Bool.false_ne_true, eo] at hz ⊢
        have := ih j (by omega) ((qOrd fd L o pt fn).1 + 1) (o + 1) _ _ (by omega) (by omega) hz
        refine Nat.le_trans this ?_
        show 3 * (o + 1) + (L - ((qOrd fd L o pt fn).1 + 1)) + 1 ≤ _
        omega
      · have e : tSign fd L 59 (qOrd fd L o pt fn).1 false = ((qOrd fd L o pt fn).1, true) := if_pos (Or.inr (by rw [nx_in (by omega)]; exact h59))
        rw [e, if_pos rfl] at hz
        exact absurd (show true = false from hz) (by decide)
  · have a1' : (ordS fd L pt fn ft o).1.2.1 = true := a1
    rw [fltI_x (Or.inl a1'), a1'] at hz
    exact absurd hz (by decide)
theorem crS_c {f : Nat → Int32} {c v0 v1 v2 v3 u0 u1 u2 u3 : Int32} (h0 : v0 = u0) (h1 : 2 ≤ nvK c → v1 = u1) (h2 : 3 ≤ nvK c → v2 = u2) (h3 : 4 ≤ nvK c → v3 = u3) : crS f c v0 v1 v2 v3 = crS f c u0 u1 u2 u3 := by
  subst h0
  unfold crS
  unfold nvK at h1 h2 h3
  by_cases e1 : c = 100
  · subst e1
    rw [if_pos rfl, if_pos rfl, h1 (by decide), h2 (by decide)]
  · rw [if_neg e1, if_neg e1]
    by_cases e2 : c = 111
    · subst e2
      rw [if_pos rfl, if_pos rfl, h1 (by decide)]
    · rw [if_neg e2, if_neg e2]
      rw [if_neg e2] at h1 h2 h3
      by_cases e3 : c = 112
      · subst e3
        rw [if_pos rfl, if_pos rfl, h1 (by decide), h2 (by decide)]
      · rw [if_neg e3, if_neg e3]
        by_cases e4 : c = 115
        · subst e4
          rw [if_pos rfl, if_pos rfl, h1 (by decide), h2 (by decide), h3 (by decide)]
        · rw [if_neg e4, if_neg e4]
          rw [if_neg e4] at h1 h2 h3
          by_cases e5 : c = 116
          · rw [if_pos e5, if_pos e5]
          · rw [if_neg e5, if_neg e5]
            rw [if_neg e5] at h1 h2
            rw [h1 (by decide), h2 (by decide)]
theorem cyI_out {k c pt fl : Nat} {vl f : Nat → Int32} (h : L ≤ pt) : cyI fd L k c pt fl vl f = (c, f) := by
  cases k with
  | zero => rfl
  | succ k => rw [cyI, yOrder_out h, if_neg Bool.false_ne_true]
theorem coI_out {ft fn f : Nat → Int32} {n m : Nat} (h : o ≤ m) : coI ft fn o n m f = (m, f) := by
  cases n with
  | zero => rfl
  | succ n => rw [coI, if_neg (by omega)]
theorem cy_rel : ∀ (k k2 n pt fl o : Nat) (vl fn ft f : Nat → Int32), pt ≤ L → L - pt < 2 * k → L - pt ≤ 2 * k2 → (fltI fd L k2 (ordS fd L pt fn ft o)).1.2.1 = false → (fltI fd L k2 (ordS fd L pt fn ft o)).2.2 ≤ o + n →
    cyI fd L k o pt fl vl f = coI (fltI fd L k2 (ordS fd L pt fn ft o)).2.1 (fltI fd L k2 (ordS fd L pt fn ft o)).1.2.2 (fltI fd L k2 (ordS fd L pt fn ft o)).2.2 n o f
  | 0, k2, n, pt, fl, o, vl, fn, ft, f, h1, h2, h3, hz, hn => absurd h2 (by omega)
  | k + 1, k2, n, pt, fl, o, vl, fn, ft, f, h1, h2, h3, hz, hn => by
    have hr := ord_rel (fd := fd) (L := L) (o := o) (pt := pt) (fl := fl) (vl := vl) (fn := fn)
    rcases hr with ⟨a1, a2, a3, a4, a5⟩ | ⟨a1, a2, a3⟩
    · have a1' : (ordS fd L pt fn ft o).1.2.1 = false := a1
      have hsp := qOrd_2 a1
      have esp : (ordS fd L pt fn ft o).1.1 = (qOrd fd L o pt fn).1 := rfl
      have eo : (ordS fd L pt fn ft o).2.2 = o + 1 := if_neg (by rw [a1]; exact Bool.false_ne_true)
      have hpL := (yOrder_kd a2).1
      have eft : (ordS fd L pt fn ft o).2.1 = up ft o (fd pt) := (if_neg (by rw [a1]; exact Bool.false_ne_true)).trans (by rw [nx_in hpL])
      obtain ⟨g1, g2, g3⟩ := flt_keep (fd := fd) (L := L) k2 (ordS fd L pt fn ft o)
      rw [eo] at g1 g2 g3
      have ec : (fltI fd L k2 (ordS fd L pt fn ft o)).2.1 o = fd pt := by rw [g2 o (by omega), eft, up_s]
      have ev : ∀ j, j < nvK (fd pt) → j < 4 → (yOrder fd L pt fl vl).2.2.2 j = (fltI fd L k2 (ordS fd L pt fn ft o)).1.2.2 (4 * o + j) := fun j hj hj4 => by
        rw [g3 (4 * o + j) (by omega)]
        exact a5 j hj
      obtain ⟨n', rfl⟩ : ∃ n', n = n' + 1 := ⟨n - 1, by omega⟩
      have h0 : 0 < nvK (fd pt) := by unfold nvK; split <;> (try omega); split <;> (try omega); split <;> omega
      have eR : crS f (fd pt) ((yOrder fd L pt fl vl).2.2.2 0) ((yOrder fd L pt fl vl).2.2.2 1) ((yOrder fd L pt fl vl).2.2.2 2) ((yOrder fd L pt fl vl).2.2.2 3) = crS f ((fltI fd L k2 (ordS fd L pt fn ft o)).2.1 o) ((fltI fd L k2 (ordS fd L pt fn ft o)).1.2.2 (4 * o)) ((fltI fd L k2 (ordS fd L pt fn ft o)).1.2.2 (4 * o + 1)) ((fltI fd L k2 (ordS fd L pt fn ft o)).1.2.2 (4 * o + 2)) ((fltI fd L k2 (ordS fd L pt fn ft o)).1.2.2 (4 * o + 3)) := by
        rw [ec]
        exact crS_c (ev 0 h0 (by omega)) (fun h => ev 1 (by omega) (by omega)) (fun h => ev 2 (by omega) (by omega)) (fun h => ev 3 (by omega) (by omega))
      obtain ⟨r, e1, e2⟩ : ∃ r, crS f (fd pt) ((yOrder fd L pt fl vl).2.2.2 0) ((yOrder fd L pt fl vl).2.2.2 1) ((yOrder fd L pt fl vl).2.2.2 2) ((yOrder fd L pt fl vl).2.2.2 3) = r ∧ crS f ((fltI fd L k2 (ordS fd L pt fn ft o)).2.1 o) ((fltI fd L k2 (ordS fd L pt fn ft o)).1.2.2 (4 * o)) ((fltI fd L k2 (ordS fd L pt fn ft o)).1.2.2 (4 * o + 1)) ((fltI fd L k2 (ordS fd L pt fn ft o)).1.2.2 (4 * o + 2)) ((fltI fd L k2 (ordS fd L pt fn ft o)).1.2.2 (4 * o + 3)) = r := ⟨_, eR, rfl⟩
      rw [cyI, if_pos a2, coI, if_pos (show o < (fltI fd L k2 (ordS fd L pt fn ft o)).2.2 by omega), e1, e2]
      by_cases hr0 : 0 ≤ r.1
      · rw [if_pos hr0, if_pos hr0, a3]
        by_cases hL : L ≤ (qOrd fd L o pt fn).1
        · have ez : fltI fd L k2 (ordS fd L pt fn ft o) = ordS fd L pt fn ft o := fltI_x (Or.inr hL) k2
          rw [cyI_out (by omega), coI_out (by rw [ez, eo]; omega)]
        · obtain ⟨j, rfl⟩ : ∃ j, k2 = j + 1 := ⟨k2 - 1, by omega⟩
          by_cases h59 : fd (qOrd fd L o pt fn).1 = 59
          · have e : tSign fd L 59 (qOrd fd L o pt fn).1 false = ((qOrd fd L o pt fn).1 + 1, false) := if_neg (fun z => z.elim Bool.false_ne_true (fun z => z (by rw [nx_in (by omega)]; exact h59)))
            have ez : fltI fd L (j + 1) (ordS fd L pt fn ft o) = fltI fd L j (ordS fd L ((qOrd fd L o pt fn).1 + 1) (ordS fd L pt fn ft o).1.2.2 (ordS fd L pt fn ft o).2.1 (o + 1)) := by
              rw [fltI, if_pos ⟨a1', by rw [esp]; omega⟩, a1', esp, e, if_neg Bool.false_ne_true, eo]
            rw [ez] at hz hn ⊢
            exact cy_rel k j n' _ _ (o + 1) _ _ _ _ (by omega) (by omega) (by omega) hz (by omega)
          · have e : tSign fd L 59 (qOrd fd L o pt fn).1 false = ((qOrd fd L o pt fn).1, true) := if_pos (Or.inr (by rw [nx_in (by omega)]; exact h59))
            rw [fltI, if_pos ⟨a1', by rw [esp]; omega⟩, a1', esp, e, if_pos rfl] at hz
            exact absurd (show true = false from hz) (by decide)
      · rw [if_neg hr0, if_neg hr0]
    · have a1' : (ordS fd L pt fn ft o).1.2.1 = true := a1
      rw [fltI_x (Or.inl a1'), a1'] at hz
      exact absurd hz (by decide)
theorem cy_eq {fn ft vl f : Nat → Int32} {fl : Nat} (hL : L ≤ 80) (hz : (fltR fd L fn ft).1.2.1 = false) : cyI fd L 80 0 0 fl vl f = coI (fltR fd L fn ft).2.1 (fltR fd L fn ft).1.2.2 (fltR fd L fn ft).2.2 28 0 f := by
  have h := flt_num (fd := fd) (L := L) 81 0 0 fn ft (by omega) (by omega) hz
  exact cy_rel 80 81 28 0 fl 0 vl fn ft f (by omega) (by omega) (by omega) hz (by
    have e : fltI fd L 81 (ordS fd L 0 fn ft 0) = fltR fd L fn ft := rfl
    rw [e] at h ⊢
    omega)
theorem cy_ok {td : Nat → Int32} : ∀ (k c pt fl : Nat) (vl f : Nat → Int32), WFx f → WFx (cyI td L k c pt fl vl f).2
  | 0, c, pt, fl, vl, f, h => h
  | k + 1, c, pt, fl, vl, f, h => by
    rw [cyI]
    split
    · split
      · exact cy_ok k _ _ _ _ _ (cr_ok h)
      · exact cr_ok h
    · exact h
theorem cy_fb {td : Nat → Int32} : ∀ (k c pt fl : Nat) (vl f : Nat → Int32), WFx f → FB f → FB (cyI td L k c pt fl vl f).2
  | 0, c, pt, fl, vl, f, h, hF => hF
  | k + 1, c, pt, fl, vl, f, h, hF => by
    rw [cyI]
    split
    · split
      · exact cy_fb k _ _ _ _ _ (cr_ok h) (cr_fb h hF)
      · exact cr_fb h hF
    · exact hF
end RDO
