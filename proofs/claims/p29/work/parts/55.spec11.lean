theorem i8_l : ∀ M, M < 256 → (nI M).toInt64 = lN M := by decide +kernel
theorem msk8 {P : Nat → Bool} {n : Nat} (h : n ≤ 8) : mskN P n < 256 := Nat.lt_of_lt_of_le (mskN_lt P n) (Nat.pow_le_pow_right (by decide) h)
/-- what taking notes away has laid so far -/
def RM (P : Nat → Bool) (na nb : Nat → Nat → Int32) (i : Nat) : Prop := (∀ t k, (kpL P i)[t]? = some k → ∀ j, j < 4 → nb j t = na j k) ∧ (∀ k, i ≤ k → ∀ j, j < 4 → nb j k = na j k)
def mvN (nb : Nat → Nat → Int32) (t k : Nat) : Nat → Nat → Int32 :=
  up (up (up (up nb 0 (up (nb 0) t (nb 0 k))) 1 (up ((up nb 0 (up (nb 0) t (nb 0 k))) 1) t ((up nb 0 (up (nb 0) t (nb 0 k))) 1 k))) 2 (up ((up (up nb 0 (up (nb 0) t (nb 0 k))) 1 (up ((up nb 0 (up (nb 0) t (nb 0 k))) 1) t ((up nb 0 (up (nb 0) t (nb 0 k))) 1 k))) 2) t ((up (up nb 0 (up (nb 0) t (nb 0 k))) 1 (up ((up nb 0 (up (nb 0) t (nb 0 k))) 1) t ((up nb 0 (up (nb 0) t (nb 0 k))) 1 k))) 2 k))) 3 (up ((up (up (up nb 0 (up (nb 0) t (nb 0 k))) 1 (up ((up nb 0 (up (nb 0) t (nb 0 k))) 1) t ((up nb 0 (up (nb 0) t (nb 0 k))) 1 k))) 2 (up ((up (up nb 0 (up (nb 0) t (nb 0 k))) 1 (up ((up nb 0 (up (nb 0) t (nb 0 k))) 1) t ((up nb 0 (up (nb 0) t (nb 0 k))) 1 k))) 2) t ((up (up nb 0 (up (nb 0) t (nb 0 k))) 1 (up ((up nb 0 (up (nb 0) t (nb 0 k))) 1) t ((up nb 0 (up (nb 0) t (nb 0 k))) 1 k))) 2 k))) 3) t ((up (up (up nb 0 (up (nb 0) t (nb 0 k))) 1 (up ((up nb 0 (up (nb 0) t (nb 0 k))) 1) t ((up nb 0 (up (nb 0) t (nb 0 k))) 1 k))) 2 (up ((up (up nb 0 (up (nb 0) t (nb 0 k))) 1 (up ((up nb 0 (up (nb 0) t (nb 0 k))) 1) t ((up nb 0 (up (nb 0) t (nb 0 k))) 1 k))) 2) t ((up (up nb 0 (up (nb 0) t (nb 0 k))) 1 (up ((up nb 0 (up (nb 0) t (nb 0 k))) 1) t ((up nb 0 (up (nb 0) t (nb 0 k))) 1 k))) 2 k))) 3 k))
theorem mvN_e (nb : Nat → Nat → Int32) (t k : Nat) : ∀ j, j < 4 → mvN nb t k j = up (nb j) t (nb j k) := by
  intro j hj
  rcases (show j = 0 ∨ j = 1 ∨ j = 2 ∨ j = 3 by omega) with rfl | rfl | rfl | rfl
  all_goals simp [mvN, up_e]
theorem RM_0 (P : Nat → Bool) (na : Nat → Nat → Int32) : RM P na na 0 := ⟨fun t k h => by simp [kpL] at h, fun k _ j _ => rfl⟩
theorem RM_t {P : Nat → Bool} {na nb : Nat → Nat → Int32} {i : Nat} (h : RM P na nb i) (hp : P i = true) : RM P na nb (i + 1) := by
  refine ⟨fun t k hk j hj => ?_, fun k hk j hj => h.2 k (by omega) j hj⟩
  rw [kpL, if_pos hp] at hk
  exact h.1 t k hk j hj
theorem RM_f {P : Nat → Bool} {na nb : Nat → Nat → Int32} {i : Nat} (h : RM P na nb i) (hp : P i = false) : RM P na (mvN nb (kpL P i).length i) (i + 1) := by
  have hl := kpL_len P i
  refine ⟨fun t k hk j hj => ?_, fun k hk j hj => ?_⟩
  · rw [kpL, if_neg (by rw [hp]; exact Bool.false_ne_true)] at hk
    rw [mvN_e _ _ _ j hj]
    by_cases ht : t < (kpL P i).length
    · rw [List.getElem?_append_left ht] at hk
      rw [up_n _ _ (by omega)]
      exact h.1 t k hk j hj
    · rw [List.getElem?_append_right (by omega)] at hk
      have h5 := (List.getElem?_eq_some_iff.mp hk).1
      have h6 : t = (kpL P i).length := by simp at h5; omega
      subst h6
      simp at hk
      subst hk
      rw [up_s]
      exact h.2 i (Nat.le_refl _) j hj
  · rw [mvN_e _ _ _ j hj, up_n _ _ (by omega)]
    exact h.2 k (by omega) j hj
theorem kp_t {P : Nat → Bool} {i : Nat} (hp : P i = true) : (kpL P i).length = (kpL P (i + 1)).length := by rw [kpL, if_pos hp]
theorem kp_f {P : Nat → Bool} {i : Nat} (hp : P i = false) : (kpL P i).length + 1 = (kpL P (i + 1)).length := by
  rw [kpL, if_neg (by rw [hp]; exact Bool.false_ne_true), List.length_append]; rfl
theorem wkI_o (P : Nat → Bool) : ∀ (j : Nat) (f : Nat → Int32) (n c : Nat), j ≤ n → n ≤ 9 → (∀ m, (m < 90 ∨ 127 ≤ m) → (wkI P j f n c).1 m = f m) ∧ (f 90 = nI n → (wkI P j f n c).1 90 = nI (wkI P j f n c).2.1)
  | 0, f, n, c, _, _ => ⟨fun _ _ => rfl, fun h => h⟩
  | j + 1, f, n, c, hj, hn => by
    rw [wkI]
    split
    · obtain ⟨h1, h2⟩ := wkI_o P j (tkF f n j) (n - 1) (c + 1) (by omega) (by omega)
      refine ⟨fun m hm => ?_, fun _ => h2 tkF_90⟩
      rw [h1 m hm]
      rcases hm with hm | hm
      · exact tkF_lo (by omega)
      · exact tkF_hi (by omega)
    · exact wkI_o P j f n c (by omega) hn
theorem drI_o (b : Nat) : ∀ (k : Nat) (f : Nat → Int32) (n : Nat), n ≤ k → n ≤ 9 → f 90 = nI n → (∀ m, (m < 82 ∨ (82 < m ∧ m < 90) ∨ 127 ≤ m) → drI k f n b m = f m) ∧ drI k f n b 90 = nI (min n b) ∧ drI k f n b 82 = f 82 + nI (n - b) ∧
    (∀ t w, w < 4 → t + (n - b) < n → noteM (drI k f n b) t w = noteM f (t + (n - b)) w)
  | 0, f, n, hk, hn, h90 => by
    have e0 : n = 0 := by omega
    subst e0
    refine ⟨fun _ _ => rfl, ?_, ?_, fun t w _ ht => by omega⟩
    · rw [drI, h90, Nat.zero_min]
    · rw [drI, Nat.zero_sub]; exact (Int32.add_zero _).symm
  | k + 1, f, n, hk, hn, h90 => by
    rw [drI]
    by_cases hb : b < n
    · rw [if_pos hb]
      obtain ⟨h1, h2, h3, h4⟩ := drI_o b k (up (tkF f n 0) 82 (f 82 + 1)) (n - 1) (by omega) (by omega) (by rw [up_n _ _ (by omega)]; exact tkF_90)
      refine ⟨fun m hm => ?_, ?_, ?_, fun t w hw ht => ?_⟩
      · rw [h1 m hm, up_n _ _ (by omega)]
        rcases hm with hm | hm | hm
        · exact tkF_lo (by omega)
        · exact tkF_lo (by omega)
        · exact tkF_hi (by omega)
      · rw [h2]; congr 1; omega
      · rw [h3, up_s, Int32.add_assoc, show (1 : Int32) + nI (n - 1 - b) = nI (1 + (n - 1 - b)) from nI_add 1 _]; congr 2; omega
      · rw [h4 t w hw (by omega)]
        rw [show noteM (up (tkF f n 0) 82 (f 82 + 1)) (t + (n - 1 - b)) w = noteM (tkF f n 0) (t + (n - 1 - b)) w from up_n _ _ (by omega), tkF_eq (by omega) (by omega) hw]
        congr 1
        omega
    · rw [if_neg hb]
      refine ⟨fun _ _ => rfl, ?_, ?_, fun t w hw ht => ?_⟩
      · rw [h90]; congr 1; omega
      · rw [show n - b = 0 from by omega]; exact (Int32.add_zero _).symm
      · congr 1; omega
theorem wipe_w {P : Nat → Bool} {f : Nat → Int32} {n : Nat} (hn : f 90 = nI n) (h8 : n ≤ 8) : ∀ m, m < 91 ∨ 127 ≤ m → up (up f 90 (nI (n - cnI P n))) 81 ((up f 90 (nI (n - cnI P n))) 81 + nI (cnI P n)) m = wkF P f n m := by
  obtain ⟨h1, h2⟩ := wkI_o P n f n 0 (Nat.le_refl _) (by omega)
  obtain ⟨k1, k2, -, -⟩ := wkI_kp P n f n 0 (Nat.le_refl _)
  intro m hm
  unfold wkF
  rw [k2, Nat.zero_add, h1 81 (by omega), up_n f _ (by omega : 81 ≠ 90), up_e, up_e _ 81]
  by_cases h81 : m = 81
  · rw [if_pos h81, if_pos h81]
  · rw [if_neg h81, if_neg h81, up_e]
    by_cases h90 : m = 90
    · subst h90; rw [if_pos rfl, h2 hn]; congr 1; omega
    · rw [if_neg h90, h1 m (by omega)]
theorem wipe_n {P : Nat → Bool} {f : Nat → Int32} {n : Nat} : wkN P f n = nI (cnI P n) := by
  obtain ⟨-, k2, -, -⟩ := wkI_kp P n f n 0 (Nat.le_refl _)
  unfold wkN
  rw [k2, Nat.zero_add]
theorem wipe_NR {P : Nat → Bool} {f : Nat → Int32} {na nb : Nat → Nat → Int32} {n : Nat} (hN : NR f na n) (hR : RM P na nb n) : NR (wkF P f n) nb (n - cnI P n) := by
  intro t ht j hj
  have hl := kpL_len P n
  obtain ⟨-, -, k3, -⟩ := wkI_kp P n f n 0 (Nat.le_refl _)
  have h1 : (kpL P n)[t]? = some ((kpL P n)[t]'(by omega)) := List.getElem?_eq_getElem (by omega)
  have h2 := kpL_lt P n _ (List.mem_of_getElem? h1)
  rw [hR.1 t _ h1 j hj, hN _ h2 j hj, ← k3 t _ h1 j hj]
  exact (up_n (wkI P n f n 0).1 _ (by omega : 91 + j + 4 * t ≠ 81)).symm
theorem wkF_90 {P : Nat → Bool} {f : Nat → Int32} {n : Nat} (hn : f 90 = nI n) (h8 : n ≤ 8) : wkF P f n 90 = nI (n - cnI P n) := by
  rw [← wipe_w hn h8 90 (by omega), up_n _ _ (by omega), up_s]
theorem wipe_w0 {f : Nat → Int32} {n : Nat} (hn : f 90 = nI n) (h8 : n ≤ 8) : ∀ m, m < 91 ∨ 127 ≤ m → wkF (fun _ => true) f n m = wpF f m := by
  have hc : ∀ n, cnI (fun _ => true) n = n := fun n => by
    induction n with
    | zero => rfl
    | succ n ih => rw [cnI, ih, if_pos rfl]
  intro m hm
  rw [← wipe_w hn h8 m hm, hc, Nat.sub_self, up_n f _ (by omega : 81 ≠ 90)]
  unfold wpF
  rw [hn]
  rfl
theorem wipe_n0 {f : Nat → Int32} {n : Nat} : wkN (fun _ => true) f n = nI n := by
  have hc : ∀ n, cnI (fun _ => true) n = n := fun n => by
    induction n with
    | zero => rfl
    | succ n ih => rw [cnI, ih, if_pos rfl]
  rw [wipe_n, hc]
theorem dr_msk {n b : Nat} (h : b < n) (h8 : n ≤ 8) : nI (2 ^ (n - b)) - 1 = nI (mskN (fun k => decide (k < n - b)) n) := by
  rw [← mskN_lo (fun k => decide (k < n - b)) (n - b) n (by omega) (fun _ _ => rfl)]
  exact pk_sub (a := mskN (fun k => decide (k < n - b)) n + 1) (b := 1) (by omega)
theorem cn_lo (c : Nat) : ∀ n, c ≤ n → cnI (fun k => decide (k < c)) n = c
  | 0, h => by rw [show c = 0 from by omega]; rfl
  | n + 1, h => by
    rw [cnI]
    by_cases q : c ≤ n
    · rw [cn_lo c n q, if_neg (by simp; omega), Nat.add_zero]
    · have e : c = n + 1 := by omega
      subst e
      rw [cnI_P (P' := fun _ => true) n (fun k hk => decide_eq_true (by omega)), if_pos (decide_eq_true (by omega))]
      have hc : ∀ n, cnI (fun _ => true) n = n := fun n => by
        induction n with
        | zero => rfl
        | succ n ih => rw [cnI, ih, if_pos rfl]
      rw [hc]
theorem kp_lo (c : Nat) : ∀ n, c ≤ n → ∀ t, t + c < n → (kpL (fun k => decide (k < c)) n)[t]? = some (t + c)
  | 0, h, t, ht => by omega
  | n + 1, h, t, ht => by
    have hl := kpL_len (fun k => decide (k < c)) n
    by_cases q : c ≤ n
    · rw [cn_lo c n q] at hl
      rw [kpL, if_neg (by simp; omega)]
      by_cases ht2 : t + c < n
      · rw [List.getElem?_append_left (by omega)]; exact kp_lo c n q t ht2
      · rw [List.getElem?_append_right (by omega), show t - (kpL (fun k => decide (k < c)) n).length = 0 from by omega]
        show some n = _
        congr 1
        omega
    · omega
theorem dr_NR {f : Nat → Int32} {na nb : Nat → Nat → Int32} {n b : Nat} (hn : f 90 = nI n) (h8 : n ≤ 8) (hb : b < n) (hN : NR f na n) (hR : RM (fun k => decide (k < n - b)) na nb n) : NR (drI n f n b) nb b := by
  obtain ⟨-, -, -, h4⟩ := drI_o b n f n (Nat.le_refl _) (by omega) hn
  intro t ht j hj
  rw [h4 t j hj (by omega), hR.1 t _ (kp_lo (n - b) n (by omega) t (by omega)) j hj, hN _ (by omega) j hj]
theorem dr_w {f : Nat → Int32} {n b : Nat} (hn : f 90 = nI n) (h8 : n ≤ 8) (hb : b < n) : ∀ m, m < 91 ∨ 127 ≤ m → up (up f 90 (nI (n - cnI (fun k => decide (k < n - b)) n))) 82 (f 82 + nI (cnI (fun k => decide (k < n - b)) n)) m = drI n f n b m := by
  obtain ⟨h1, h2, h3, -⟩ := drI_o b n f n (Nat.le_refl _) (by omega) hn
  rw [cn_lo (n - b) n (by omega)]
  intro m hm
  rw [up_e]
  by_cases h82 : m = 82
  · subst h82; rw [if_pos rfl, h3]
  · rw [if_neg h82, up_e]
    by_cases h90 : m = 90
    · subst h90; rw [if_pos rfl, h2]; congr 1; omega
    · rw [if_neg h90, h1 m (by omega)]
theorem dr_no {f : Nat → Int32} {n b : Nat} (hb : n ≤ b) : ∀ k, drI k f n b = f
  | 0 => rfl
  | k + 1 => by rw [drI, if_neg (by omega)]
/-- a note added: the row outside the notes, and the notes -/
def adN (nb : Nat → Nat → Int32) (t : Nat) (g d e p : Int32) : Nat → Nat → Int32 :=
  up (up (up (up nb 0 (up (nb 0) t g)) 1 (up ((up nb 0 (up (nb 0) t g)) 1) t d)) 2 (up ((up (up nb 0 (up (nb 0) t g)) 1 (up ((up nb 0 (up (nb 0) t g)) 1) t d)) 2) t e)) 3 (up ((up (up (up nb 0 (up (nb 0) t g)) 1 (up ((up nb 0 (up (nb 0) t g)) 1) t d)) 2 (up ((up (up nb 0 (up (nb 0) t g)) 1 (up ((up nb 0 (up (nb 0) t g)) 1) t d)) 2) t e)) 3) t p)
theorem ad_NR {f : Nat → Int32} {na : Nat → Nat → Int32} {n : Nat} {g d e p : Int32} (h : NR f na n) : NR (pnF f n g d e p) (adN na n g d e p) (n + 1) := by
  intro k hk j hj
  have e : ∀ v, v < 4 → noteM (pnF f n g d e p) k v = if k = n then (if v = 0 then g else if v = 1 then d else if v = 2 then e else p) else noteM f k v := by
    intro v hv
    unfold noteM pnF
    rw [up_n _ _ (by omega)]
    by_cases hkn : k = n
    · subst hkn
      rw [if_pos rfl]
      rcases (show v = 0 ∨ v = 1 ∨ v = 2 ∨ v = 3 by omega) with rfl | rfl | rfl | rfl
      · rw [up_n _ _ (by omega), up_n _ _ (by omega), up_n _ _ (by omega), show 91 + 0 + 4 * k = 91 + 4 * k from by omega, up_s]; rfl
      · rw [up_n _ _ (by omega), up_n _ _ (by omega), show 91 + 1 + 4 * k = 91 + 4 * k + 1 from by omega, up_s]; rfl
      · rw [up_n _ _ (by omega), show 91 + 2 + 4 * k = 91 + 4 * k + 2 from by omega, up_s]; rfl
      · rw [show 91 + 3 + 4 * k = 91 + 4 * k + 3 from by omega, up_s]; rfl
    · rw [if_neg hkn, up_n _ _ (by omega), up_n _ _ (by omega), up_n _ _ (by omega), up_n _ _ (by omega)]
  rw [e j hj]
  by_cases hkn : k = n
  · subst hkn
    rw [if_pos rfl]
    rcases (show j = 0 ∨ j = 1 ∨ j = 2 ∨ j = 3 by omega) with rfl | rfl | rfl | rfl
    all_goals simp [adN, up_e]
  · rw [if_neg hkn, ← h k (by omega) j hj]
    rcases (show j = 0 ∨ j = 1 ∨ j = 2 ∨ j = 3 by omega) with rfl | rfl | rfl | rfl
    all_goals simp [adN, up_e, hkn]
theorem ad_w {f : Nat → Int32} {n : Nat} {g d e p : Int32} (h8 : n < 9) : ∀ m, m < 91 ∨ 127 ≤ m → up f 90 (nI (n + 1)) m = pnF f n g d e p m := by
  intro m hm
  unfold pnF
  rw [up_e, up_e]
  by_cases h90 : m = 90
  · rw [if_pos h90, if_pos h90]
  · rw [if_neg h90, if_neg h90, up_n _ _ (by omega), up_n _ _ (by omega), up_n _ _ (by omega), up_n _ _ (by omega)]
theorem NR_c {f g : Nat → Int32} {na : Nat → Nat → Int32} {n : Nat} (h : ∀ m, 91 ≤ m → m < 127 → f m = g m) (hn : n ≤ 9) (hN : NR f na n) : NR g na n := fun k hk j hj => by
  rw [hN k hk j hj]
  exact h _ (by omega) (by omega)
theorem nl_e {f : Nat → Int32} {L i gi di : Nat} (eg : noteM f i 0 = nI gi) (ed : noteM f i 1 = nI di) (hg : gi < 6) (hd : di < 10) : ledBy f i = ledM f gi di := by
  unfold ledBy
  rw [eg, ed, nI_clamp (by omega), nI_clamp (by omega)]
def nlP (f : Nat → Int32) (L k : Nat) : Bool := decide (¬ ledBy f k < 0) && L.testBit (ledBy f k).toNatClampNeg
theorem nl_t {f : Nat → Int32} {L i s : Nat} (h : ledBy f i = nI s) (hs : s < 2 ^ 31) : nlP f L i = L.testBit s := by
  unfold nlP
  rw [h, decide_eq_true (nI_pos hs), Bool.true_and, nI_clamp hs]
theorem nl_f {f : Nat → Int32} {L i : Nat} (h : ledBy f i = -6) : nlP f L i = false := by
  unfold nlP
  rw [h, decide_eq_false (not_not_intro neg6), Bool.false_and]
theorem wlkI_x {f : Nat → Int32} {g nd x : Int32} {k i : Nat} {s r : Int32} (h : s < 0 ∨ ¬ r = 0) : wlkI f g nd x k s r i = (r, i) := by
  cases k with
  | zero => rfl
  | succ k => rw [wlkI, if_neg (by rintro ⟨h1, h2⟩; rcases h with q | q; exact h1 q; exact q h2)]
