/-! ===== the class's reader and the reference's, part by part ===== -/
section RDR
variable {fd : Nat → Int32} {L o : Nat}
def RV (vl g : Nat → Int32) (o fl : Nat) : Prop := ∀ j, j < fl → vl j = g (4 * o + j)
/-- how the two stand to each other behind a part: in step, or both at the fault (the class may find it at the next part, if a digit follows a number) -/
def Rr (fd : Nat → Int32) (L o fl : Nat) (p : Bool) (yb : Bool × Y3) (x : P3) : Prop :=
  (x.2.1 = false ∧ yb.1 = true ∧ yb.2.1 = x.1 ∧ yb.2.2.1 = fl ∧ RV yb.2.2.2 x.2.2 o fl) ∨
  (x.2.1 = true ∧ yb.2.1 = x.1 ∧ (yb.1 = false ∨ (p = true ∧ yb.1 = true ∧ x.1 < L ∧ dgB (fd x.1) = true)))
abbrev PT : Type := Int32 × (P3 → P3) × Nat × Bool
def PW (q : P3 → P3) : Prop := ∀ x : P3, x.2.1 = true → (q x).1 = x.1 ∧ (q x).2.1 = true
def PE (L : Nat) (q : P3 → P3) : Prop := ∀ (s : Nat) (g : Nat → Int32), L ≤ s → (q (s, false, g)).1 = s ∧ (q (s, false, g)).2.1 = true
def PS9 (fd : Nat → Int32) (L : Nat) (c : Int32) : Prop := ∀ y : Y3, dgB (fd y.1) = true → yPart fd L c y = (false, y)
def PR9 (fd : Nat → Int32) (L o fl dv : Nat) (num : Bool) (c : Int32) (q : P3 → P3) : Prop := ∀ (s : Nat) (g vl : Nat → Int32), s < L → RV vl g o fl → Rr fd L o (fl + dv) num (yPart fd L c (s, fl, vl)) (q (s, false, g))
def yRun (td : Nat → Int32) (L : Nat) : List Int32 → Y3 → Bool × Y3
  | [], y => (true, y)
  | c :: cs, y => if L ≤ y.1 then (false, y) else if (yPart td L c y).1 = true then yRun td L cs (yPart td L c y).2 else (false, (yPart td L c y).2)
def qRun : List PT → P3 → P3
  | [], x => x
  | t :: ts, x => qRun ts (t.2.1 x)
def flE (fl : Nat) : List PT → Nat
  | [] => fl
  | t :: ts => flE (fl + t.2.2.1) ts
def pE (p : Bool) : List PT → Bool
  | [] => p
  | t :: ts => pE t.2.2.2 ts
def PLs (fd : Nat → Int32) (L o : Nat) : Nat → Bool → List PT → Prop
  | _, _, [] => True
  | fl, p, t :: ts => PW t.2.1 ∧ PE L t.2.1 ∧ (p = true → PS9 fd L t.1) ∧ PR9 fd L o fl t.2.2.1 t.2.2.2 t.1 t.2.1 ∧ PLs fd L o (fl + t.2.2.1) t.2.2.2 ts
theorem qRun_w : ∀ (ts : List PT) (fl : Nat) (p : Bool), PLs fd L o fl p ts → ∀ x : P3, x.2.1 = true → (qRun ts x).1 = x.1 ∧ (qRun ts x).2.1 = true
  | [], _, _, _, x, h => ⟨rfl, h⟩
  | t :: ts, fl, p, hl, x, h => by
    obtain ⟨h1, -, -, -, h5⟩ := hl
    obtain ⟨a1, a2⟩ := h1 x h
    obtain ⟨b1, b2⟩ := qRun_w ts _ _ h5 (t.2.1 x) a2
    exact ⟨b1.trans a1, b2⟩
theorem run_rel : ∀ (ts : List PT) (fl : Nat) (p : Bool), PLs fd L o fl p ts → ∀ (y : Y3) (x : P3), Rr fd L o fl p (true, y) x → Rr fd L o (flE fl ts) (pE p ts) (yRun fd L (ts.map Prod.fst) y) (qRun ts x)
  | [], fl, p, _, y, x, h => h
  | t :: ts, fl, p, hl, y, x, h => by
    obtain ⟨h1, h2, h3, h4, h5⟩ := hl
    have hw := fun (x : P3) (hx : x.2.1 = true) => qRun_w ts _ _ h5 x hx
    show Rr fd L o (flE (fl + t.2.2.1) ts) (pE t.2.2.2 ts) (if L ≤ y.1 then (false, y) else if (yPart fd L t.1 y).1 = true then yRun fd L (ts.map Prod.fst) (yPart fd L t.1 y).2 else (false, (yPart fd L t.1 y).2)) (qRun ts (t.2.1 x))
    rcases h with ⟨a1, a2, a3, a4, a5⟩ | ⟨a1, a2, a3⟩
    · obtain ⟨s, wr, g⟩ := x
      obtain ⟨s2, fl2, vl⟩ := y
      cases a1
      cases a3
      cases a4
      by_cases hL : L ≤ s
      · rw [if_pos hL]
        obtain ⟨e1, e2⟩ := h2 s g hL
        obtain ⟨b1, b2⟩ := hw _ e2
        exact Or.inr ⟨b2, (e1.symm.trans b1.symm), Or.inl rfl⟩
      · rw [if_neg hL]
        have hr := h4 s g vl (by omega) a5
        rcases hr with ⟨c1, c2, c3, c4, c5⟩ | ⟨c1, c2, c3⟩
        · rw [if_pos c2]
          exact run_rel ts _ _ h5 _ _ (Or.inl ⟨c1, rfl, c3, c4, c5⟩)
        · obtain ⟨b1, b2⟩ := hw _ c1
          rcases c3 with c3 | ⟨c3, c4, c5, c6⟩
          · rw [if_neg (by rw [c3]; exact Bool.false_ne_true)]
            exact Or.inr ⟨b2, c2.trans b1.symm, Or.inl rfl⟩
          · rw [if_pos c4]
            exact run_rel ts _ _ h5 _ _ (Or.inr ⟨c1, c2, Or.inr ⟨c3, rfl, c5, c6⟩⟩)
    · obtain ⟨e1, e2⟩ := h1 x a1
      obtain ⟨b1, b2⟩ := hw _ e2
      rcases a3 with a3 | ⟨a3, a4, a5, a6⟩
      · exact absurd (show true = false from a3) (by decide)
      · have a2' : y.1 = x.1 := a2
        rw [if_neg (by omega)]
        have a6' : dgB (fd y.1) = true := by rw [a2]; exact a6
        have hf := h3 a3 y a6'
        rw [hf, if_neg Bool.false_ne_true]
        exact Or.inr ⟨b2, (a2.trans e1.symm).trans b1.symm, Or.inl rfl⟩
theorem nx_in {s : Nat} (h : s < L) : nx fd L s = fd s := if_pos h
theorem nx_out {s : Nat} (h : L ≤ s) : nx fd L s = 0 := if_neg (by omega)
theorem RV_up {vl g : Nat → Int32} {fl : Nat} {v : Int32} (h : RV vl g o fl) : RV (up vl fl v) (up g (4 * o + fl) v) o (fl + 1) := fun j hj => by
  by_cases e : j = fl
  · subst e; rw [up_s, up_s]
  · rw [up_n _ _ e, up_n _ _ (by omega)]
    exact h j (by omega)
theorem take_rel {s fl : Nat} {vl g : Nat → Int32} {v : Int32} {num : Bool} (hf : fl < 4) (h : RV vl g o fl) : Rr fd L o (fl + 1) num (true, yTake v (s, fl, vl)) (s + 1, false, up g (4 * o + fl) v) := by
  refine Or.inl ⟨rfl, rfl, rfl, ?_, ?_⟩
  · show (if fl < 4 then fl + 1 else fl) = fl + 1
    rw [if_pos hf]
  · show RV (if fl < 4 then up vl fl v else vl) _ o (fl + 1)
    rw [if_pos hf]
    exact RV_up h
theorem stop_rel {s fl fl2 : Nat} {vl g : Nat → Int32} {num : Bool} : Rr fd L o fl2 num (false, (s, fl, vl)) (s, true, g) := Or.inr ⟨rfl, rfl, Or.inl rfl⟩
-- signs
theorem sign_p {c : Int32} (h : ¬ c = 71 ∧ ¬ c = 78 ∧ ¬ c = 97 ∧ ¬ c = 100 ∧ ¬ c = 102 ∧ ¬ c = 103 ∧ ¬ c = 110) (y : Y3) : yPart fd L c y = yItself fd c y := by
  obtain ⟨h1, h2, h3, h4, h5, h6, h7⟩ := h
  unfold yPart
  rw [if_neg h1, if_neg h2, if_neg h3, if_neg h4, if_neg h5, if_neg h6, if_neg h7]
theorem sign_W {c : Int32} : PW (qSign fd L c) := fun x h => by
  have e : tSign fd L c x.1 x.2.1 = (x.1, true) := if_pos (Or.inl h)
  unfold qSign
  rw [e]
  exact ⟨rfl, rfl⟩
theorem sign_E {c : Int32} (hc : ¬ c = 0) : PE L (qSign fd L c) := fun s g h => by
  have e : tSign fd L c s false = (s, true) := if_pos (Or.inr (by rw [nx_out h]; exact fun z => hc z.symm))
  show (tSign fd L c s false).1 = s ∧ (tSign fd L c s false).2 = true
  rw [e]
  exact ⟨rfl, rfl⟩
theorem sign_R {c : Int32} {fl : Nat} (h : ¬ c = 71 ∧ ¬ c = 78 ∧ ¬ c = 97 ∧ ¬ c = 100 ∧ ¬ c = 102 ∧ ¬ c = 103 ∧ ¬ c = 110) : PR9 fd L o fl 0 false c (qSign fd L c) := fun s g vl hs hv => by
  rw [sign_p h]
  show Rr fd L o fl false (if fd s = c then (true, (s + 1, fl, vl)) else (false, (s, fl, vl))) ((tSign fd L c s false).1, (tSign fd L c s false).2, g)
  by_cases e : fd s = c
  · have e2 : tSign fd L c s false = (s + 1, false) := if_neg (fun z => z.elim Bool.false_ne_true (fun z => z (by rw [nx_in hs]; exact e)))
    rw [if_pos e, e2]
    exact Or.inl ⟨rfl, rfl, rfl, rfl, hv⟩
  · have e2 : tSign fd L c s false = (s, true) := if_pos (Or.inr (by rw [nx_in hs]; exact e))
    rw [if_neg e, e2]
    exact stop_rel
theorem sign_S {c : Int32} (h : ¬ c = 71 ∧ ¬ c = 78 ∧ ¬ c = 97 ∧ ¬ c = 100 ∧ ¬ c = 102 ∧ ¬ c = 103 ∧ ¬ c = 110) (hd : dgB c = false) : PS9 fd L c := fun y hy => by
  rw [sign_p h]
  unfold yItself
  rw [if_neg (fun z => by rw [z, hd] at hy; exact Bool.false_ne_true hy)]
-- one digit
theorem one_W {pl : Nat} {lo hi : Int32} : PW (qOne fd L o pl lo hi) := fun x h => by
  have e : qOne fd L o pl lo hi x = (x.1, true, x.2.2) := if_pos (Or.inl h)
  rw [e]
  exact ⟨rfl, rfl⟩
theorem one_E {pl : Nat} {lo hi : Int32} (h0 : inB 0 lo hi = false) : PE L (qOne fd L o pl lo hi) := fun s g h => by
  have e : qOne fd L o pl lo hi (s, false, g) = (s, true, g) := if_pos (Or.inr (by rw [nx_out h]; exact h0))
  rw [e]
  exact ⟨rfl, rfl⟩
theorem digit_R {fl : Nat} {lo hi : Int32} {s : Nat} {g vl : Nat → Int32} {num : Bool} (hf : fl < 4) (hs : s < L) (hv : RV vl g o fl) : Rr fd L o (fl + 1) num (yDigit fd lo hi (s, fl, vl)) (qOne fd L o fl lo hi (s, false, g)) := by
  unfold yDigit
  by_cases e : inB (fd s) lo hi = true
  · have e2 : qOne fd L o fl lo hi (s, false, g) = (s + 1, false, up g (4 * o + fl) (fd s - 48)) := by
      have e3 : qOne fd L o fl lo hi (s, false, g) = (s + 1, false, up g (4 * o + fl) (nx fd L s - 48)) := if_neg (fun z => z.elim Bool.false_ne_true (fun z => by rw [nx_in hs, e] at z; exact Bool.false_ne_true z.symm))
      rw [e3, nx_in hs]
    rw [if_pos e, e2]
    exact take_rel hf hv
  · have e2 : qOne fd L o fl lo hi (s, false, g) = (s, true, g) := if_pos (Or.inr (by rw [nx_in hs]; exact Bool.eq_false_iff.mpr e))
    rw [if_neg e, e2]
    exact stop_rel
-- numbers
theorem num_W {pl : Nat} : PW (qNum fd L o pl) := fun x h => by
  have e : qNum fd L o pl x = (x.1, true, x.2.2) := if_pos (Or.inl h)
  rw [e]
  exact ⟨rfl, rfl⟩
theorem num_E {pl : Nat} : PE L (qNum fd L o pl) := fun s g h => by
  have e : qNum fd L o pl (s, false, g) = (s, true, g) := if_pos (Or.inr (by rw [nx_out h]; decide))
  rw [e]
  exact ⟨rfl, rfl⟩
theorem num_R {fl s : Nat} {g vl : Nat → Int32} (hf : fl < 4) (hs : s < L) (hv : RV vl g o fl) : Rr fd L o (fl + 1) true (yNum fd L (s, fl, vl)) (qNum fd L o fl (s, false, g)) := by
  unfold yNum
  show Rr fd L o (fl + 1) true (if dgB (fd s) = true then (if (decide ((0 : Int) < (fd s - 48).toInt) && (decide (s + 1 < L) && dgB (fd (s + 1)))) = true then (true, yTake ((fd s - 48) * 10 + (fd (s + 1) - 48)) (s + 1, fl, vl)) else (true, yTake (fd s - 48) (s, fl, vl))) else (false, (s, fl, vl))) (tNum fd L o fl s false g)
  by_cases e : dgB (fd s) = true
  · rw [if_pos e]
    have n1 : ¬ (false = true ∨ dgB (nx fd L s) = false) := fun z => z.elim Bool.false_ne_true (fun z => by rw [nx_in hs, e] at z; exact Bool.false_ne_true z.symm)
    obtain ⟨j, hj, ej⟩ := dg_nI e
    have ev : fd s - 48 = nI j := by rw [ej, dg_v]
    by_cases e2 : (decide ((0 : Int) < (fd s - 48).toInt) && (decide (s + 1 < L) && dgB (fd (s + 1)))) = true
    · rw [if_pos e2]
      obtain ⟨z1, z2⟩ := Bool.and_eq_true_iff.mp e2
      obtain ⟨z3, z4⟩ := Bool.and_eq_true_iff.mp z2
      have z1' := of_decide_eq_true z1
      have z3' := of_decide_eq_true z3
      have hj0 : 0 < j := by
        rw [ev, nI_toInt (by omega)] at z1'
        omega
      obtain ⟨k, hk, ek⟩ := dg_nI z4
      have n2 : ¬ (nx fd L s = 48 ∨ dgB (nx fd L (s + 1)) = false) := fun z => z.elim (fun z => by
        rw [nx_in hs, ej] at z
        have := (nI_eq (a := 48 + j) (b := 48) (by omega) (by omega)).mp z
        omega) (fun z => by rw [nx_in z3', z4] at z; exact Bool.false_ne_true z.symm)
      have et : tNum fd L o fl s false g = (s + 2, dgB (nx fd L (s + 2)), up g (4 * o + fl) (10 * (nx fd L s - 48) + nx fd L (s + 1) - 48)) := by
        unfold tNum
        rw [if_neg n1, if_neg n2]
      have hval : (10 : Int32) * (nx fd L s - 48) + nx fd L (s + 1) - 48 = (fd s - 48) * 10 + (fd (s + 1) - 48) := by
        rw [nx_in hs, nx_in z3', ej, ek, dg_w, dg_v, dg_v, show (10 : Int32) = nI 10 from rfl, pk_mul, nI_add]
        congr 1
        omega
      rw [et, hval]
      by_cases ed : dgB (nx fd L (s + 2)) = true
      · have hl := nx_dg ed
        rw [ed]
        refine Or.inr ⟨rfl, rfl, Or.inr ⟨rfl, rfl, hl, ?_⟩⟩
        rw [nx_in hl] at ed
        exact ed
      · rw [Bool.eq_false_iff.mpr ed]
        exact take_rel hf hv
    · rw [if_neg e2]
      have n2 : nx fd L s = 48 ∨ dgB (nx fd L (s + 1)) = false := by
        by_cases e3 : nx fd L s = 48
        · exact Or.inl e3
        · refine Or.inr (Bool.eq_false_iff.mpr (fun e4 => e2 ?_))
          have hl := nx_dg e4
          rw [nx_in hl] at e4
          rw [e4, decide_eq_true hl, Bool.and_true, Bool.and_true]
          refine decide_eq_true ?_
          rw [ev, nI_toInt (by omega)]
          rcases Nat.eq_zero_or_pos j with q | q
          · subst q
            exact absurd (by rw [nx_in hs, ej]; rfl) e3
          · omega
      have et : tNum fd L o fl s false g = (s + 1, false, up g (4 * o + fl) (nx fd L s - 48)) := by
        unfold tNum
        rw [if_neg n1, if_pos n2]
      rw [et, nx_in hs]
      exact take_rel hf hv
  · rw [if_neg e]
    have et : tNum fd L o fl s false g = (s, true, g) := if_pos (Or.inr (by rw [nx_in hs]; exact Bool.eq_false_iff.mpr e))
    rw [et]
    exact stop_rel
-- or "-"
theorem noOr_W {pl : Nat} {r : P3 → P3} (hr : PW r) : PW (qNoOr fd L o pl r) := fun x h => by
  have e : tNoB fd L x.1 x.2.1 = false := by unfold tNoB; rw [h]; rfl
  rw [qNoOr_f e]
  have e2 : qNo fd L o pl x = x := by
    unfold qNo tNo
    rw [if_neg (by rw [e]; exact Bool.false_ne_true)]
  rw [e2]
  exact hr x h
theorem noOr_x {pl s : Nat} {g : Nat → Int32} {r : P3 → P3} (h : ¬ nx fd L s = 45) : qNoOr fd L o pl r (s, false, g) = r (s, false, g) := by
  have e : tNoB fd L s false = false := by unfold tNoB; rw [decide_eq_false h]; rfl
  rw [qNoOr_f e]
  have e2 : qNo fd L o pl (s, false, g) = (s, false, g) := by
    unfold qNo tNo
    rw [if_neg (by rw [e]; exact Bool.false_ne_true)]
  rw [e2]
theorem noOr_E {pl : Nat} {r : P3 → P3} (hr : PE L r) : PE L (qNoOr fd L o pl r) := fun s g h => by
  rw [noOr_x (by rw [nx_out h]; decide)]
  exact hr s g h
theorem noOr_R {fl s : Nat} {g vl : Nat → Int32} {ry : Y3 → Bool × Y3} {r : P3 → P3} {num : Bool} (hf : fl < 4) (hs : s < L) (hv : RV vl g o fl) (h : Rr fd L o (fl + 1) num (ry (s, fl, vl)) (r (s, false, g))) : Rr fd L o (fl + 1) num (yOr fd ry (s, fl, vl)) (qNoOr fd L o fl r (s, false, g)) := by
  unfold yOr
  by_cases e : fd s = 45
  · have e1 : tNoB fd L s false = true := by unfold tNoB; rw [nx_in hs, decide_eq_true e]; rfl
    rw [if_pos e, qNoOr_t e1]
    have e2 : qNo fd L o fl (s, false, g) = (s + 1, false, up g (4 * o + fl) (-6)) := by
      unfold qNo tNo
      rw [if_pos e1]
    rw [e2]
    exact take_rel hf hv
  · rw [if_neg e, noOr_x (by rw [nx_in hs]; exact e)]
    exact h
-- the need
theorem need_W : PW (qNeed fd L o) := fun x h => by
  have e : qNeed fd L o x = (x.1, true, x.2.2) := if_pos (Or.inl h)
  rw [e]
  exact ⟨rfl, rfl⟩
theorem need_E : PE L (qNeed fd L o) := fun s g h => by
  have e : qNeed fd L o (s, false, g) = (s, true, g) := if_pos (Or.inr (by rw [nx_out h]; decide))
  rw [e]
  exact ⟨rfl, rfl⟩
theorem need_R {s : Nat} {g vl : Nat → Int32} (hs : s < L) (hv : RV vl g o 2) : Rr fd L o 3 false (yNeed fd (s, 2, vl)) (qNeed fd L o (s, false, g)) := by
  unfold yNeed
  show Rr fd L o 3 false (if fd s = 114 then (true, yTake 1 (s, 2, vl)) else if fd s = 119 then (true, yTake 2 (s, 2, vl)) else (false, (s, 2, vl))) (tNeed fd L o s false g)
  have ht : ∀ h : ¬ (false = true ∨ (¬ nx fd L s = 114 ∧ ¬ nx fd L s = 119)), tNeed fd L o s false g = (s + 1, false, up g (4 * o + 2) (if nx fd L s = 114 then 1 else 2)) := fun h => if_neg h
  rw [nx_in hs] at ht
  by_cases e : fd s = 114
  · rw [if_pos e, ht (fun z => z.elim Bool.false_ne_true (fun z => z.1 e)), if_pos e]
    exact take_rel (by omega) hv
  · rw [if_neg e]
    by_cases e2 : fd s = 119
    · rw [if_pos e2, ht (fun z => z.elim Bool.false_ne_true (fun z => z.2 e2)), if_neg e]
      exact take_rel (by omega) hv
    · have et : tNeed fd L o s false g = (s, true, g) := if_pos (Or.inr (by rw [nx_in hs]; exact ⟨e, e2⟩))
      rw [if_neg e2, et]
      exact stop_rel
end RDR
