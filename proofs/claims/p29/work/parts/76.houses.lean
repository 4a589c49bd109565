/-! ===== a fresh house; a house being copied; lists of houses ===== -/
def filI (f : Nat → Int32) (v : Int32) (n : Nat) : Nat → Int32 := fun k => if k < n then v else f k
theorem filI_0 (f : Nat → Int32) (v : Int32) : filI f v 0 = f := by funext k; simp [filI]
theorem filI_s {f : Nat → Int32} {v : Int32} {i : Nat} : up (filI f v i) i v = filI f v (i + 1) := by
  funext k
  rw [up_e]
  unfold filI
  by_cases hk : k = i
  · subst hk; rw [if_pos rfl, if_pos (by omega)]
  · rw [if_neg hk]
    by_cases h2 : k < i
    · rw [if_pos h2, if_pos (by omega)]
    · rw [if_neg h2, if_neg (by omega)]
def f0S : Nat → Int32 := fun m => if 4 ≤ m ∧ m < 76 then -6 else if m = 0 then 4 else if m = 1 then 1 else if m = 2 then 2 else 0
def na0S : Nat → Nat → Int32 := fun _ _ => 0
theorem f0S_hi {m : Nat} (h : 76 ≤ m) : f0S m = 0 := by
  unfold f0S
  rw [if_neg (by omega), if_neg (by omega), if_neg (by omega), if_neg (by omega)]
theorem f0S_mid {m : Nat} (h : 4 ≤ m) (h2 : m < 76) : f0S m = -6 := by
  unfold f0S
  rw [if_pos ⟨h, h2⟩]
theorem cl_f0 {n o st : Nat} (h : 76 ≤ o) : cl n o st f0S = fun _ => 0 := by
  funext k
  by_cases hk : k < n
  · rw [cl_in hk]; exact f0S_hi (by omega)
  · simp [cl, hk]
theorem cl_na0 {j : Nat} : cl 8 0 1 (na0S j) = fun _ => 0 := by
  funext k
  unfold cl na0S
  split <;> rfl
theorem cl_f0o : cl 12 4 1 f0S = filI (fun _ => 0) (-6) 12 := by
  funext k
  by_cases hk : k < 12
  · rw [cl_in hk, f0S_mid (by omega) (by omega)]; unfold filI; rw [if_pos hk]
  · simp [cl, filI, hk]
theorem cl_f0d : cl 60 16 1 f0S = filI (fun _ => 0) (-6) 60 := by
  funext k
  by_cases hk : k < 60
  · rw [cl_in hk, f0S_mid (by omega) (by omega)]; unfold filI; rw [if_pos hk]
  · simp [cl, filI, hk]
theorem cl_f0s : cl 4 0 1 f0S = fsFirst := by
  funext k
  match k with
  | 0 => rfl
  | 1 => rfl
  | 2 => rfl
  | 3 => rfl
  | k + 4 => rw [cl, if_neg (by omega)]; rfl
theorem mk_f0 : lN (mkB f0S 5) = 0 ∧ lN (mkB f0S 6) = 0 := by decide +kernel
theorem wH_f0 (D : DT) (b : Nat → Nat) : wH D b f0S na0S = [
  (b 0, .inr (2, [.ref (b 1), .ref (b 2), .ref (b 3), .ref (b 4), .ref (b 5), .ref (b 13), .int 0, .int 0, .int 0, .int 0])),
  (b 1, .inl (D.2.1, 12, .inl (filI (fun _ => 0) (-6) 12))), (b 2, .inl (D.2.1, 60, .inl (filI (fun _ => 0) (-6) 60))), (b 3, .inl (D.2.1, 4, .inl fsFirst)), (b 4, .inl (D.2.1, 7, .inl (fun _ => 0))),
  (b 5, .inr (4, [.ref (b 6), .ref (b 7), .ref (b 8), .ref (b 9), .ref (b 10), .long 0, .long 0, .int 0])),
  (b 6, .inl (D.2.1, 40, .inl (fun _ => 0))), (b 7, .inl (D.2.1, 40, .inl (fun _ => 0))), (b 8, .inl (D.2.1, 40, .inl (fun _ => 0))), (b 9, .inl (D.2.1, 40, .inl (fun _ => 0))), (b 10, .inl (D.2.1, 40, .inl (fun _ => 0))),
  (b 13, .inr (0, [.ref (b 14), .ref (b 15), .ref (b 16), .ref (b 17), .int 0, .int 0, .int 0])),
  (b 14, .inl (D.2.1, 8, .inl (fun _ => 0))), (b 15, .inl (D.2.1, 8, .inl (fun _ => 0))), (b 16, .inl (D.2.1, 8, .inl (fun _ => 0))), (b 17, .inl (D.2.1, 8, .inl (fun _ => 0)))] := by
  unfold wH
  rw [cl_f0o, cl_f0d, cl_f0s, cl_f0 (n := 7) (o := 83) (by omega), cl_f0 (n := 40) (o := 127) (by omega), cl_f0 (n := 40) (o := 128) (by omega), cl_f0 (n := 40) (o := 129) (by omega), cl_f0 (n := 40) (o := 130) (by omega), cl_f0 (n := 40) (o := 131) (by omega), mk_f0.1, mk_f0.2, cl_na0, cl_na0, cl_na0, cl_na0,
    f0S_hi (m := 76) (by omega), f0S_hi (m := 77) (by omega), f0S_hi (m := 78) (by omega), f0S_hi (m := 79) (by omega), f0S_hi (m := 80) (by omega), f0S_hi (m := 81) (by omega), f0S_hi (m := 82) (by omega), f0S_hi (m := 90) (by omega)]
def fiI (o i : Nat) (g : Nat → Int32) : Nat → Int32 := fun k => if o ≤ k ∧ k < o + i then -6 else g k
theorem fiI_0 {o : Nat} {g : Nat → Int32} : fiI o 0 g = g := by funext k; unfold fiI; rw [if_neg (by omega)]
theorem fiI_s {o i : Nat} {g : Nat → Int32} : up (fiI o i g) (o + i) (-6) = fiI o (i + 1) g := by
  funext k
  rw [up_e]
  unfold fiI
  by_cases hk : k = o + i
  · rw [if_pos hk, if_pos (by omega)]
  · rw [if_neg hk]
    by_cases h2 : o ≤ k ∧ k < o + i
    · rw [if_pos h2, if_pos (by omega)]
    · rw [if_neg h2, if_neg (by omega)]
theorem fiI_f0 : fiI 16 60 (fiI 4 12 (up (up (up (fun _ => 0) 0 4) 1 1) 2 2)) = f0S := by
  funext k
  unfold fiI f0S
  by_cases h1 : 16 ≤ k ∧ k < 16 + 60
  · rw [if_pos h1, if_pos (by omega)]
  · rw [if_neg h1]
    by_cases h2 : 4 ≤ k ∧ k < 4 + 12
    · rw [if_pos h2, if_pos (by omega)]
    · rw [if_neg h2, if_neg (by omega), up_e, up_e, up_e]
      by_cases e2 : k = 2
      · subst e2; rfl
      · rw [if_neg e2]
        by_cases e1 : k = 1
        · subst e1; rfl
        · rw [if_neg e1]
          by_cases e0 : k = 0
          · subst e0; rfl
          · rw [if_neg e0, if_neg e0, if_neg e1, if_neg e2]
theorem f0_WF : WF f0S 0 0 4 := by
  refine ⟨f0S_hi (by omega), by omega, f0S_hi (by omega), rfl, by omega, by omega, by omega, fun s hs => absurd hs (Nat.not_lt_zero s), fun s hs => absurd hs (Nat.not_lt_zero s), fun p hp => Or.inl (f0S_mid (by omega) (by omega)), fun p hp => Or.inl (f0S_mid (by omega) (by omega)), Or.inr rfl, Or.inr (Or.inr rfl), Or.inl rfl, fun s _ _ => ⟨f0S_hi (by omega), f0S_hi (by omega)⟩⟩
theorem f0_FB : FB f0S := fun s hs => ⟨Or.inl (f0S_hi (by omega)), Or.inl (f0S_hi (by omega))⟩
/-- a house with each row and number apart -/
def wE (D : DT) (b : Nat → Nat) (r : Nat → Nat → Int32) (z : Nat → Int32) (q : Nat → Nat) : va_W := [
  (b 0, .inr (2, [.ref (b 1), .ref (b 2), .ref (b 3), .ref (b 4), .ref (b 5), .ref (b 13), .int (z 77), .int (z 78), .int (z 79), .int (z 80)])),
  (b 1, .inl (D.2.1, 12, .inl (r 1))), (b 2, .inl (D.2.1, 60, .inl (r 2))), (b 3, .inl (D.2.1, 4, .inl (r 3))), (b 4, .inl (D.2.1, 7, .inl (r 4))),
  (b 5, .inr (4, [.ref (b 6), .ref (b 7), .ref (b 8), .ref (b 9), .ref (b 10), .long (lN (q 5)), .long (lN (q 6)), .int (z 76)])),
  (b 6, .inl (D.2.1, 40, .inl (r 6))), (b 7, .inl (D.2.1, 40, .inl (r 7))), (b 8, .inl (D.2.1, 40, .inl (r 8))), (b 9, .inl (D.2.1, 40, .inl (r 9))), (b 10, .inl (D.2.1, 40, .inl (r 10))),
  (b 13, .inr (0, [.ref (b 14), .ref (b 15), .ref (b 16), .ref (b 17), .int (z 90), .int (z 81), .int (z 82)])),
  (b 14, .inl (D.2.1, 8, .inl (r 14))), (b 15, .inl (D.2.1, 8, .inl (r 15))), (b 16, .inl (D.2.1, 8, .inl (r 16))), (b 17, .inl (D.2.1, 8, .inl (r 17)))]
def rgH (f : Nat → Int32) (na : Nat → Nat → Int32) : Nat → Nat → Int32 := fun i => match i with
  | 1 => cl 12 4 1 f | 2 => cl 60 16 1 f | 3 => cl 4 0 1 f | 4 => cl 7 83 1 f
  | 6 => cl 40 127 7 f | 7 => cl 40 128 7 f | 8 => cl 40 129 7 f | 9 => cl 40 130 7 f | 10 => cl 40 131 7 f
  | 14 => cl 8 0 1 (na 0) | 15 => cl 8 0 1 (na 1) | 16 => cl 8 0 1 (na 2) | 17 => cl 8 0 1 (na 3) | _ => fun _ => 0
def cpE (n : Nat) (f : Nat → Int32) (i : Nat) (r : Nat → Nat → Int32) : Nat → Nat → Int32 := up r i (va_cpy f (r i) 0 0 n)
def cpS (f : Nat → Int32) (r : Nat → Nat → Int32) : Nat → Nat → Int32 := cpE 40 (cl 40 131 7 f) 10 (cpE 40 (cl 40 130 7 f) 9 (cpE 40 (cl 40 129 7 f) 8 (cpE 40 (cl 40 128 7 f) 7 (cpE 40 (cl 40 127 7 f) 6 r))))
def cpB (na : Nat → Nat → Int32) (r : Nat → Nat → Int32) : Nat → Nat → Int32 := cpE 8 (cl 8 0 1 (na 3)) 17 (cpE 8 (cl 8 0 1 (na 2)) 16 (cpE 8 (cl 8 0 1 (na 1)) 15 (cpE 8 (cl 8 0 1 (na 0)) 14 r)))
def cpO (f : Nat → Int32) (r : Nat → Nat → Int32) : Nat → Nat → Int32 := cpE 7 (cl 7 83 1 f) 4 (cpE 4 (cl 4 0 1 f) 3 (cpE 60 (cl 60 16 1 f) 2 (cpE 12 (cl 12 4 1 f) 1 r)))
theorem wE_wH (D : DT) (b : Nat → Nat) (f : Nat → Int32) (na : Nat → Nat → Int32) : wH D b f na = wE D b (rgH f na) f (mkB f) := rfl
theorem wE_cp {D : DT} {b : Nat → Nat} {f g : Nat → Int32} {na nb : Nat → Nat → Int32} : wE D b (cpB na (cpS f (cpO f (rgH g nb)))) (up (up (up (up (up (up (up (up g 76 (f 76)) 90 (f 90)) 81 (f 81)) 82 (f 82)) 77 (f 77)) 78 (f 78)) 79 (f 79)) 80 (f 80)) (up (up (mkB g) 5 (mkB f 5)) 6 (mkB f 6)) = wH D b f na := by
  have h1 : cpB na (cpS f (cpO f (rgH g nb))) 1 = cl 12 4 1 f := cpy_cl
  have h2 : cpB na (cpS f (cpO f (rgH g nb))) 2 = cl 60 16 1 f := cpy_cl
  have h3 : cpB na (cpS f (cpO f (rgH g nb))) 3 = cl 4 0 1 f := cpy_cl
  have h4 : cpB na (cpS f (cpO f (rgH g nb))) 4 = cl 7 83 1 f := cpy_cl
  have h6 : cpB na (cpS f (cpO f (rgH g nb))) 6 = cl 40 127 7 f := cpy_cl
  have h7 : cpB na (cpS f (cpO f (rgH g nb))) 7 = cl 40 128 7 f := cpy_cl
  have h8 : cpB na (cpS f (cpO f (rgH g nb))) 8 = cl 40 129 7 f := cpy_cl
  have h9 : cpB na (cpS f (cpO f (rgH g nb))) 9 = cl 40 130 7 f := cpy_cl
  have h10 : cpB na (cpS f (cpO f (rgH g nb))) 10 = cl 40 131 7 f := cpy_cl
  have h14 : cpB na (cpS f (cpO f (rgH g nb))) 14 = cl 8 0 1 (na 0) := cpy_cl
  have h15 : cpB na (cpS f (cpO f (rgH g nb))) 15 = cl 8 0 1 (na 1) := cpy_cl
  have h16 : cpB na (cpS f (cpO f (rgH g nb))) 16 = cl 8 0 1 (na 2) := cpy_cl
  have h17 : cpB na (cpS f (cpO f (rgH g nb))) 17 = cl 8 0 1 (na 3) := cpy_cl
  unfold wE
  rw [h1, h2, h3, h4, h6, h7, h8, h9, h10, h14, h15, h16, h17]
  rfl
/-! ===== the other houses ===== -/
abbrev HH : Type := (Nat → Nat) × (Nat → Int32) × (Nat → Nat → Int32)
def hsW (D : DT) : List HH → va_W
  | [] => []
  | h :: t => wH D h.1 h.2.1 h.2.2 ++ hsW D t
theorem hsW_app (D : DT) : ∀ x y : List HH, hsW D (x ++ y) = hsW D x ++ hsW D y
  | [], y => rfl
  | h :: t, y => by rw [List.cons_append, hsW, hsW, hsW_app D t y, List.append_assoc]
theorem hsW_perm (D : DT) {x y : List HH} (h : x.Perm y) : (hsW D x).Perm (hsW D y) := by
  induction h with
  | nil => exact List.Perm.refl _
  | cons a h ih => exact List.Perm.append_left _ ih
  | swap a b t =>
    show (wH D _ _ _ ++ (wH D _ _ _ ++ hsW D t)).Perm (wH D _ _ _ ++ (wH D _ _ _ ++ hsW D t))
    rw [← List.append_assoc, ← List.append_assoc]
    exact List.Perm.append_right _ List.perm_append_comm
  | trans h1 h2 i1 i2 => exact i1.trans i2
def opl (p : Nat → Option HH) : Nat → List HH
  | 0 => []
  | n + 1 => opl p n ++ (p n).toList
theorem opl_c {p p' : Nat → Option HH} : ∀ n, (∀ k, k < n → p k = p' k) → opl p n = opl p' n
  | 0, _ => rfl
  | n + 1, h => by rw [opl, opl, h n (by omega), opl_c n (fun k hk => h k (by omega))]
theorem opl_take {p : Nat → Option HH} {k : Nat} {h : HH} (hp : p k = some h) : ∀ n, k < n → (opl p n).Perm (h :: opl (up p k none) n)
  | 0, hk => absurd hk (Nat.not_lt_zero k)
  | n + 1, hk => by
    rw [opl, opl]
    by_cases hn : k = n
    · subst hn
      rw [hp, up_s, opl_c (p := up p k none) (p' := p) k (fun j hj => up_n _ _ (by omega))]
      show (opl p k ++ [h]).Perm (h :: (opl p k ++ []))
      rw [List.append_nil]
      exact List.perm_append_singleton h (opl p k)
    · rw [up_n _ _ (fun z => hn z.symm)]
      exact (opl_take hp n (by omega)).append_right _
def tlW (D : DT) (pq ps : Nat → Option HH) : va_W := hsW D (opl pq 7 ++ opl ps 2)
theorem tl_q {D : DT} {pq ps : Nat → Option HH} {k : Nat} {h : HH} (hk : k < 7) (hp : pq k = some h) : (tlW D pq ps).Perm (wH D h.1 h.2.1 h.2.2 ++ tlW D (up pq k none) ps) := hsW_perm D ((opl_take hp 7 hk).append_right _)
theorem tl_s {D : DT} {pq ps : Nat → Option HH} {k : Nat} {h : HH} (hk : k < 2) (hp : ps k = some h) : (tlW D pq ps).Perm (wH D h.1 h.2.1 h.2.2 ++ tlW D pq (up ps k none)) :=
  (hsW_perm D (((opl_take hp 2 hk).append_left (opl pq 7)).trans List.perm_middle)).trans (List.Perm.refl _)
theorem up_up {α : Type} (f : Nat → α) (k : Nat) (u v : α) : up (up f k u) k v = up f k v := by
  funext j
  rw [up_e, up_e, up_e]
  split
  · rfl
  · rfl
theorem up_id {α : Type} (f : Nat → α) (k : Nat) : up f k (f k) = f := by
  funext j
  rw [up_e]
  by_cases h : j = k
  · rw [if_pos h, h]
  · rw [if_neg h]
def fqa (p : Nat → Option HH) : Nat → Option Nat := fun k => (p k).map (fun h => h.1 0)
theorem fqa_up (p : Nat → Option HH) (k : Nat) (h : HH) : fqa (up p k (some h)) = va_up (fqa p) k (some (h.1 0)) := by
  funext j
  unfold fqa va_up
  rw [up_e]
  by_cases e : j = k
  · rw [if_pos e, if_pos e]; rfl
  · rw [if_neg e, if_neg e]
theorem fqa_same {p : Nat → Option HH} {k : Nat} {h h' : HH} (hp : p k = some h) (ha : h'.1 0 = h.1 0) : fqa (up p k (some h')) = fqa p := by
  funext j
  unfold fqa
  rw [up_e]
  by_cases e : j = k
  · rw [if_pos e, e, hp]; show some (h'.1 0) = some (h.1 0); rw [ha]
  · rw [if_neg e]
theorem fqa_none {p : Nat → Option HH} {k : Nat} (hp : p k = none) : fqa p k = none := by unfold fqa; rw [hp]; rfl
theorem fqa_some {p : Nat → Option HH} {k : Nat} {h : HH} (hp : p k = some h) : fqa p k = some (h.1 0) := by unfold fqa; rw [hp]; rfl
theorem tl_none {D : DT} {pq ps : Nat → Option HH} {k : Nat} (hp : pq k = none) : tlW D (up pq k none) ps = tlW D pq ps := by rw [← hp, up_id]
theorem tl_noneS {D : DT} {pq ps : Nat → Option HH} {k : Nat} (hp : ps k = none) : tlW D pq (up ps k none) = tlW D pq ps := by rw [← hp, up_id]
/-- the past's houses, one place on -/
def rotQ (p : Nat → Option HH) : Nat → Option HH := fun k => if k < 6 then p (k + 1) else if k = 6 then p 0 else p k
theorem rotQ_perm (p : Nat → Option HH) : (opl p 7).Perm (opl (rotQ p) 7) := by
  show ([] ++ (p 0).toList ++ (p 1).toList ++ (p 2).toList ++ (p 3).toList ++ (p 4).toList ++ (p 5).toList ++ (p 6).toList).Perm ([] ++ (p 1).toList ++ (p 2).toList ++ (p 3).toList ++ (p 4).toList ++ (p 5).toList ++ (p 6).toList ++ (p 0).toList)
  simp only [List.nil_append, List.append_assoc]
  refine List.perm_append_comm.trans ?_
  simp only [List.append_assoc]
  exact List.Perm.refl _
theorem tl_rot {D : DT} {pq ps : Nat → Option HH} : (tlW D pq ps).Perm (tlW D (rotQ pq) ps) := hsW_perm D ((rotQ_perm pq).append_right _)
/-- while the past's places move on by one: the first i have moved -/
def rotI (fq : Nat → Option Nat) (i : Nat) : Nat → Option Nat := fun k => if k < i then fq (k + 1) else fq k
theorem rotI_0 (fq : Nat → Option Nat) : rotI fq 0 = fq := by funext k; simp [rotI]
theorem rotI_s {fq : Nat → Option Nat} {i : Nat} {x : Nat} (h : fq (i + 1) = some x) : va_up (rotI fq i) i (some x) = rotI fq (i + 1) := by
  funext k
  unfold va_up rotI
  by_cases hk : k = i
  · subst hk; rw [if_pos rfl, if_pos (by omega), h]
  · rw [if_neg hk]
    by_cases h2 : k < i
    · rw [if_pos h2, if_pos (by omega)]
    · rw [if_neg h2, if_neg (by omega)]
theorem rotI_e {p : Nat → Option HH} {h : HH} (hp : p 0 = some h) : va_up (rotI (fqa p) 6) 6 (some (h.1 0)) = fqa (rotQ p) := by
  funext k
  unfold va_up rotI fqa rotQ
  by_cases hk : k = 6
  · subst hk; rw [if_pos rfl, if_neg (by omega), if_pos rfl, hp]; rfl
  · rw [if_neg hk]
    by_cases h2 : k < 6
    · rw [if_pos h2, if_pos h2]
    · rw [if_neg h2, if_neg h2, if_neg hk]
theorem hs_mem {D : DT} {hs : List HH} {h : HH} (hm : h ∈ hs) : ∃ (q : Nat) (vs : List Value), (hsW D hs)[q]? = some (h.1 0, .inr (2, vs)) := by
  have hin : ∀ hs : List HH, h ∈ hs → ∃ vs, (h.1 0, Sum.inr (2, vs)) ∈ hsW D hs := by
    intro hs
    induction hs with
    | nil => intro hm; cases hm
    | cons g t ih =>
      intro hm
      rcases List.mem_cons.mp hm with e | e
      · subst e
        exact ⟨_, List.mem_append_left _ (List.mem_cons_self)⟩
      · obtain ⟨vs, hv⟩ := ih e
        exact ⟨vs, List.mem_append_right _ hv⟩
  obtain ⟨vs, hv⟩ := hin hs hm
  obtain ⟨q, hq⟩ := List.getElem?_of_mem hv
  exact ⟨q, vs, hq⟩
theorem opl_mem {p : Nat → Option HH} {k : Nat} {h : HH} (hp : p k = some h) {n : Nat} (hk : k < n) : h ∈ opl p n := (opl_take hp n hk).mem_iff.mpr List.mem_cons_self
theorem wB_mem {D : DT} {a : Nat → Nat} {f : Nat → Int32} {na : Nat → Nat → Int32} {w td vl : Nat → Int32} {L pt fl : Nat} {kd : Int32} {kp : Nat} {fq fs : Nat → Option Nat} {pq ps : Nat → Option HH} {k : Nat} {h : HH} (hk : k < 7) (hp : pq k = some h) :
    ∃ (q : Nat) (vs : List Value), (wB D a f na w td vl L pt fl kd kp fq fs (tlW D pq ps))[q]? = some (h.1 0, .inr (2, vs)) := by
  obtain ⟨q, vs, hq⟩ := hs_mem (D := D) (List.mem_append_left (opl ps 2) (opl_mem hp hk))
  refine ⟨24 + q, vs, ?_⟩
  unfold wB
  rw [List.getElem?_append_right (by show 24 ≤ 24 + q; omega)]
  show (tlW D pq ps)[24 + q - 24]? = _
  rw [show 24 + q - 24 = q from by omega]
  exact hq
/-- the class's whole object -/
abbrev wC (D : DT) (a : Nat → Nat) (f : Nat → Int32) (na : Nat → Nat → Int32) (w td vl : Nat → Int32) (L pt fl : Nat) (kd : Int32) (kp : Nat) (pq ps : Nat → Option HH) : va_W := wB D a f na w td vl L pt fl kd kp (fqa pq) (fqa ps) (tlW D pq ps)
/-- a new cell, with what came of it, to its place behind the object -/
theorem perm_new {α : Type} (c : α) (B T W : List α) : ((c :: (B ++ T)) ++ W).Perm (B ++ ((c :: W) ++ T)) := by
  have h1 : ((c :: (B ++ T)) ++ W).Perm ((c :: W) ++ (B ++ T)) := by
    show (c :: ((B ++ T) ++ W)).Perm (c :: (W ++ (B ++ T)))
    exact List.Perm.cons c List.perm_append_comm
  refine h1.trans ?_
  rw [← List.append_assoc, ← List.append_assoc]
  exact List.Perm.append_right T List.perm_append_comm
theorem perm_last {α : Type} (c : α) (B : List α) : (B ++ [c]).Perm (c :: B) := List.perm_append_singleton c B
theorem wput_app2 : ∀ (is1 : List Nat) (w1 : va_W) (is2 : List Nat) (w2 ws : va_W), is1.length = w1.length → wput ws (is1 ++ is2) (w1 ++ w2) = wput (wput ws is1 w1) is2 w2
  | [], [], is2, w2, ws, _ => rfl
  | i :: is1, q :: w1, is2, w2, ws, h => by
    have h1 : is1.length = w1.length := by simpa using h
    show wput (ws.set i q) (is1 ++ is2) (w1 ++ w2) = wput (wput (ws.set i q) is1 w1) is2 w2
    exact wput_app2 is1 w1 is2 w2 _ h1
  | [], _ :: _, _, _, _, h => by simp at h
  | _ :: _, [], _, _, _, h => by simp at h
theorem wput_two {is is1 is2 : List Nat} {ws w1 w2 : va_W} (hi : is = is1 ++ is2) (h : is1.length = w1.length) : wput ws is (w1 ++ w2) = wput (wput ws is1 w1) is2 w2 := by
  subst hi
  exact wput_app2 is1 w1 is2 w2 ws h
theorem wput_at {B h0 h1 t : va_W} {is : List Nat} {n k : Nat} (hn : B.length = n) (hk : h0.length = k) (hl : h1.length = k) (his : is = List.range' n k) : wput (B ++ (h0 ++ t)) is h1 = B ++ (h1 ++ t) := by
  subst hn
  subst hk
  subst his
  exact wput_pre h1 h0 B t hl.symm
theorem wput_at0 {h0 h1 t : va_W} {is : List Nat} {k : Nat} (hk : h0.length = k) (hl : h1.length = k) (his : is = List.range' 0 k) : wput (h0 ++ t) is h1 = h1 ++ t := by
  subst hk
  subst his
  exact wput_pre h1 h0 [] t hl.symm
section WBCP
variable {D : DT} {a b : Nat → Nat} {f g f2 f3 : Nat → Int32} {na nb na2 na3 : Nat → Nat → Int32} {w td vl : Nat → Int32} {L pt fl : Nat} {kd : Int32} {kp : Nat} {fq fs : Nat → Option Nat} {t tl : va_W}
theorem wB_put1 : wput (wB D a f na w td vl L pt fl kd kp fq fs (wH D b g nb ++ t)) [24, 25, 26, 27, 28, 29, 30, 31, 32, 33, 34, 35, 36, 37, 38, 39] (wH D b f2 na2) = wB D a f na w td vl L pt fl kd kp fq fs (wH D b f2 na2 ++ t) := by
  unfold wB
  exact wput_at (n := 24) (k := 16) rfl rfl rfl rfl
theorem wB_put0 : wput (wB D a f na w td vl L pt fl kd kp fq fs tl) [0, 1, 2, 3, 4, 5, 6, 7, 8, 9, 10, 11, 12, 13, 14, 15] (wH D a f3 na3) = wB D a f3 na3 w td vl L pt fl kd kp fq fs tl := by
  unfold wB wHW
  rw [List.append_assoc, List.append_assoc, List.append_assoc, List.append_assoc]
  exact wput_at0 (k := 16) rfl rfl rfl
theorem wB_cp : wput (wB D a f na w td vl L pt fl kd kp fq fs (wH D b g nb ++ t)) ([24, 25, 26, 27, 28, 29, 30, 31, 32, 33, 34, 35, 36, 37, 38, 39] ++ [0, 1, 2, 3, 4, 5, 6, 7, 8, 9, 10, 11, 12, 13, 14, 15]) (wH D b f2 na2 ++ wH D a f3 na3) = wB D a f3 na3 w td vl L pt fl kd kp fq fs (wH D b f2 na2 ++ t) := by
  rw [wput_two (is1 := [24, 25, 26, 27, 28, 29, 30, 31, 32, 33, 34, 35, 36, 37, 38, 39]) (is2 := [0, 1, 2, 3, 4, 5, 6, 7, 8, 9, 10, 11, 12, 13, 14, 15]) rfl rfl, wB_put1, wB_put0]
theorem wB_cp2 : wput (wB D a f na w td vl L pt fl kd kp fq fs (wH D b g nb ++ t)) ([0, 1, 2, 3, 4, 5, 6, 7, 8, 9, 10, 11, 12, 13, 14, 15] ++ [24, 25, 26, 27, 28, 29, 30, 31, 32, 33, 34, 35, 36, 37, 38, 39]) (wH D a f3 na3 ++ wH D b f2 na2) = wB D a f3 na3 w td vl L pt fl kd kp fq fs (wH D b f2 na2 ++ t) := by
  rw [wput_two (is1 := [0, 1, 2, 3, 4, 5, 6, 7, 8, 9, 10, 11, 12, 13, 14, 15]) (is2 := [24, 25, 26, 27, 28, 29, 30, 31, 32, 33, 34, 35, 36, 37, 38, 39]) rfl rfl, wB_put0, wB_put1]
theorem wB_new {q : Nat} {e : va_E} : (((q, e) :: wB D a f na w td vl L pt fl kd kp fq fs tl) ++ t).Perm (wB D a f na w td vl L pt fl kd kp fq fs (((q, e) :: t) ++ tl)) := by
  unfold wB
  exact perm_new _ _ _ _
theorem wB_perm {tl' : va_W} (h : tl.Perm tl') : (wB D a f na w td vl L pt fl kd kp fq fs tl).Perm (wB D a f na w td vl L pt fl kd kp fq fs tl') := List.Perm.append_left _ h
theorem wB_fq {fq' : Nat → Option Nat} (h : fq = fq') : wB D a f na w td vl L pt fl kd kp fq fs tl = wB D a f na w td vl L pt fl kd kp fq' fs tl := by rw [h]
theorem wB_fs {fs' : Nat → Option Nat} (h : fs = fs') : wB D a f na w td vl L pt fl kd kp fq fs tl = wB D a f na w td vl L pt fl kd kp fq fs' tl := by rw [h]
theorem wB_tl {tl' : va_W} (h : tl = tl') : wB D a f na w td vl L pt fl kd kp fq fs tl = wB D a f na w td vl L pt fl kd kp fq fs tl' := by rw [h]
theorem wB_f {f' : Nat → Int32} (h : ∀ m, m < 407 → f m = f' m) : wB D a f na w td vl L pt fl kd kp fq fs tl = wB D a f' na w td vl L pt fl kd kp fq fs tl := by
  unfold wB
  rw [wHW_c2 h]
end WBCP
/-- the history behind a change: how many are kept, which -/
def kN (kp : Nat) : Nat := if kp < 6 then kp + 1 else 6
def kQ (kp : Nat) (pq : Nat → Option HH) : Nat → Option HH := if kp < 6 then pq else rotQ pq
def kU (x : Int32) (kp : Nat) : Nat := if 0 ≤ x then kN kp else kp
def kV (x : Int32) (kp : Nat) (pq : Nat → Option HH) : Nat → Option HH := if 0 ≤ x then kQ kp pq else pq
def HQ (pq : Nat → Option HH) (kp : Nat) : Prop := ∀ k, k < kp → ∃ h : HH, pq k = some h
theorem HQ_up {pq : Nat → Option HH} {kp : Nat} {h : HH} (hq : HQ pq kp) : HQ (up pq kp (some h)) (kp + 1) := fun k hk => by
  by_cases e : k = kp
  · subst e; exact ⟨h, up_s _ _ _⟩
  · obtain ⟨g, hg⟩ := hq k (by omega)
    exact ⟨g, by rw [up_n _ _ e]; exact hg⟩
