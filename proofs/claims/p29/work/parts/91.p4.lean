/-! ===== what changes leave of the notes ===== -/
theorem kpL_at {P : Nat → Bool} : ∀ n k, k < n → P k = false → (kpL P n)[k - cnI P k]? = some k
  | 0, k, h, _ => absurd h (Nat.not_lt_zero k)
  | n + 1, k, h, hp => by
    have hl := kpL_len P n
    rw [kpL]
    by_cases hk : k = n
    · subst hk
      rw [if_neg (by rw [hp]; exact Bool.false_ne_true), List.getElem?_append_right (by omega), show k - cnI P k - (kpL P k).length = 0 from by omega]
      rfl
    · have ih := kpL_at n k (by omega) hp
      split
      · exact ih
      · rw [List.getElem?_append_left (List.getElem?_eq_some_iff.mp ih).1]
        exact ih
theorem kpL_sub {P : Nat → Bool} : ∀ n, (kpL P n).Sublist (List.range n)
  | 0 => List.Sublist.refl _
  | n + 1 => by
    rw [kpL, List.range_succ]
    split
    · exact List.Sublist.trans (kpL_sub n) (List.sublist_append_left _ _)
    · exact List.Sublist.append (kpL_sub n) (List.Sublist.refl _)
theorem kpL_no {P : Nat → Bool} : ∀ n k, k ∈ kpL P n → P k = false
  | 0, k, h => by simp [kpL] at h
  | n + 1, k, h => by
    rw [kpL] at h
    split at h
    · exact kpL_no n k h
    · rename_i hp
      rcases List.mem_append.mp h with q | q
      · exact kpL_no n k q
      · rw [List.mem_singleton.mp q]; simpa using hp
theorem cnI_kp {P : Nat → Bool} {n k : Nat} (hk : k < n) (hp : P k = false) : k - cnI P k < n - cnI P n := by
  have h1 := kpL_at n k hk hp
  have h2 := (List.getElem?_eq_some_iff.mp h1).1
  have h3 := kpL_len P n
  omega
theorem wk_note {P : Nat → Bool} {f : Nat → Int32} {n t k : Nat} (h : (kpL P n)[t]? = some k) : ∀ w, w < 4 → noteM (wkF P f n) t w = noteM f k w := by
  intro w hw
  obtain ⟨-, -, h3, -⟩ := wkI_kp P n f n 0 (Nat.le_refl _)
  have e : noteM (wkF P f n) t w = noteM (wkI P n f n 0).1 t w := up_n _ _ (by omega)
  rw [e]
  exact h3 t k h w hw
theorem wk_lo {P : Nat → Bool} {f : Nat → Int32} {n m : Nat} (h9 : n ≤ 9) (hm : m < 81 ∨ (81 < m ∧ m < 90) ∨ 127 ≤ m) : wkF P f n m = f m := by
  obtain ⟨h1, -⟩ := wkI_o P n f n 0 (Nat.le_refl _) h9
  unfold wkF
  rw [up_n _ _ (by omega)]
  exact h1 m (by omega)
theorem wk_81 {P : Nat → Bool} {f : Nat → Int32} {n : Nat} (h9 : n ≤ 9) : wkF P f n 81 = f 81 + nI (cnI P n) := by
  obtain ⟨h1, -⟩ := wkI_o P n f n 0 (Nat.le_refl _) h9
  obtain ⟨-, k2, -, -⟩ := wkI_kp P n f n 0 (Nat.le_refl _)
  unfold wkF
  rw [up_s, h1 81 (by omega), k2, Nat.zero_add]
theorem wk_WF {P : Nat → Bool} {f : Nat → Int32} {mk n b : Nat} (hW : WF f mk n b) : WF (wkF P f n) mk (n - cnI P n) b := by
  have hb : b ≤ 8 := hW.2.2.2.2.2.1
  have hnb : n ≤ b := hW.2.2.2.2.2.2.1
  obtain ⟨n', h1, h2⟩ := hW.wkF (P := P)
  have h3 : nI n' = nI (n - cnI P n) := h1.2.2.1.symm.trans (wkF_90 hW.2.2.1 (by omega))
  rw [← nI_inj8 (by omega) (by omega) h3]
  exact h1
/-- a note's row is fine still -/
theorem NT_sub {f f' : Nat → Int32} {n : Nat} {l : List Nat} (eN : nN f = n) (hl : l.Sublist (List.range n)) (h : NT f) (e : ntl f' (nN f') = l.map (rw4 f)) (hok : ∀ k ∈ l, k < n → okR f (rw4 f k) → okR f' (rw4 f k)) : NT f' := by
  obtain ⟨h1, h2⟩ := h
  refine ⟨fun x hx => ?_, ?_⟩
  · rw [e] at hx
    obtain ⟨k, hk, rfl⟩ := List.mem_map.mp hx
    have hkn := List.mem_range.mp (hl.subset hk)
    exact hok k hk hkn (h1 _ (List.mem_map.mpr ⟨k, List.mem_range.mpr (by omega), rfl⟩))
  · rw [e]
    unfold ntl at h2
    rw [eN] at h2
    exact ((hl.map (rw4 f)).map key4).nodup h2
theorem nN_of {f : Nat → Int32} {mk n b : Nat} (h : WF f mk n b) : nN f = n := h.N.2.1
theorem mkN_of {f : Nat → Int32} {mk n b : Nat} (h : WF f mk n b) : mkN f = mk := h.N.1
theorem ntl_wk {P : Nat → Bool} {f0 f : Nat → Int32} {n : Nat} (h0 : ∀ k, k < n → ∀ w, w < 4 → noteM f k w = noteM f0 k w) : ntl (wkF P f n) (n - cnI P n) = (kpL P n).map (rw4 f0) := by
  have hl := kpL_len P n
  apply List.ext_getElem?
  intro t
  unfold ntl
  rw [List.getElem?_map, List.getElem?_map]
  by_cases ht : t < n - cnI P n
  · have h1 : (kpL P n)[t]? = some ((kpL P n)[t]'(by omega)) := List.getElem?_eq_getElem (by omega)
    have h2 := kpL_lt P n _ (List.mem_of_getElem? h1)
    rw [h1, List.getElem?_range ht]
    show some (rw4 (wkF P f n) t) = some (rw4 f0 _)
    unfold rw4
    rw [wk_note h1 0 (by omega), wk_note h1 1 (by omega), wk_note h1 2 (by omega), wk_note h1 3 (by omega), h0 _ h2 0 (by omega), h0 _ h2 1 (by omega), h0 _ h2 2 (by omega), h0 _ h2 3 (by omega)]
  · rw [List.getElem?_eq_none (by rw [List.length_range]; omega), List.getElem?_eq_none (by omega)]
    rfl
/-- good stamps: by stamps and owners alone -/
theorem gd_c {f g : Nat → Int32} {mk : Nat} (hst : ∀ s, s < mk → stOK f s) (h40 : mk ≤ 40) (ho : ∀ p, p < 12 → g (4 + p) = f (4 + p)) (hs : ∀ s, s < mk → ∀ w, w < 7 → ofM g s w = ofM f s w) : ∀ N s, s < N → s < mk → gd g s = gd f s
  | 0, s, h, _ => absurd h (Nat.not_lt_zero s)
  | N + 1, s, h, hm => by
    have hst' : ∀ s, s < mk → stOK g s := fun s hs' => stOK_c (fun w hw => hs s hs' w hw) (hst s hs')
    rw [gdS hst' hm h40, gdS hst hm h40]
    obtain ⟨⟨p, hp, ep⟩, -, -, -, hrt, -, -⟩ := hst s hm
    have hb : basedM g s = basedM f s := by
      unfold basedM rtM
      rw [hs s hm 4 (by omega), hs s hm 1 (by omega), hs s hm 0 (by omega), hs s hm 3 (by omega), ep, nI_clamp (by omega), ho p hp]
      rcases hrt with z | ⟨r, hr, z⟩
      · rw [z, if_pos neg6, if_pos neg6]
      · rw [z, nI_clamp (by omega), hs r (by omega) 0 (by omega), hs r (by omega) 2 (by omega), hs r (by omega) 3 (by omega)]
    rw [hs s hm 5 (by omega), hs s hm 6 (by omega), hs s hm 4 (by omega), hb]
    rcases hrt with z | ⟨r, hr, z⟩
    · rw [z, decide_eq_true neg6, Bool.true_or, Bool.true_or]
    · rw [z, nI_clamp (by omega), gd_c hst h40 ho hs N r (by omega) (by omega)]
theorem gd_cx {f g : Nat → Int32} {mk : Nat} (hst : ∀ s, s < mk → stOK f s) (h40 : mk ≤ 40) (h : ∀ m, (4 ≤ m ∧ m < 16) ∨ 127 ≤ m → g m = f m) {s : Nat} (hm : s < mk) : gd g s = gd f s :=
  gd_c hst h40 (fun p hp => h _ (by omega)) (fun s _ w _ => h _ (by omega)) (s + 1) s (by omega) hm
/-- what a page changing hands, or a stamp taken back, leaves of stamps of other pages -/
theorem gd_own {f : Nat → Int32} {mk p : Nat} {gu : Int32} (hst : ∀ s, s < mk → stOK f s) (h40 : mk ≤ 40) (hp : p < 12) : ∀ N s, s < N → s < mk → ¬ ofM f s 0 = nI p → gd f s = true → gd (up f (4 + p) gu) s = true
  | 0, s, h, _, _, _ => absurd h (Nat.not_lt_zero s)
  | N + 1, s, h, hm, hpg, hg => by
    have e : ∀ m, m ≠ 4 + p → up f (4 + p) gu m = f m := fun m hm => up_n _ _ hm
    have es : ∀ s w, ofM (up f (4 + p) gu) s w = ofM f s w := fun s w => e _ (by omega)
    have hst' : ∀ s, s < mk → stOK (up f (4 + p) gu) s := fun s hs' => stOK_c (fun w hw => es s w) (hst s hs')
    rw [gdS hst hm h40] at hg
    obtain ⟨a5, hg⟩ := Bool.and_eq_true_iff.mp hg
    obtain ⟨a6, hg⟩ := Bool.and_eq_true_iff.mp hg
    obtain ⟨ab, ar⟩ := Bool.and_eq_true_iff.mp hg
    obtain ⟨⟨q, hq, eq⟩, -, -, -, hrt, -, -⟩ := hst s hm
    have hqp : q ≠ p := fun z => hpg (by rw [eq, z])
    rw [gdS hst' hm h40, es, es, es, a5, a6]
    have hb : basedM (up f (4 + p) gu) s = true := by
      rw [← ab]
      unfold basedM rtM
      rw [es, es, es, es, es, es, es, eq, nI_clamp (by omega), e _ (by omega)]
    rw [hb]
    rcases hrt with z | ⟨r, hr, z⟩
    · rw [z]; rfl
    · rw [z, decide_eq_false (nI_pos (by omega)), Bool.false_or, nI_clamp (by omega)] at ar
      have hpr : ¬ ofM f r 0 = nI p := by
        unfold basedM at ab
        rw [if_neg (by rw [z]; exact nI_pos (by omega)), rtM_n z (by omega)] at ab
        rw [of_decide_eq_true (Bool.and_eq_true_iff.mp ab).1]
        exact hpg
      rw [z, nI_clamp (by omega), gd_own hst h40 hp N r (by omega) (by omega) hpr ar, Bool.or_true]
      rfl
theorem gd_take {f : Nat → Int32} {mk q : Nat} (hst : ∀ s, s < mk → stOK f s) (h40 : mk ≤ 40) (hq : q < mk) : ∀ N s, s < N → s < mk → ¬ ofM f s 0 = ofM f q 0 → gd f s = true → gd (up f (127 + 7 * q + 6) 1) s = true
  | 0, s, h, _, _, _ => absurd h (Nat.not_lt_zero s)
  | N + 1, s, h, hm, hpg, hg => by
    have hx : nI q = -6 ∨ ∃ q' : Nat, q' < mk ∧ nI q = nI q' := Or.inr ⟨q, hq, rfl⟩
    rw [← fW_q f (by omega), gdW_ic hst h40 hq (s + 1) s (by omega) hm, hg, Bool.true_and]
    -- the chain's stamps are of one page
    have hic : ∀ M s, s < M → s < mk → gd f s = true → isIC f q s = true → ofM f s 0 = ofM f q 0 := by
      intro M
      induction M with
      | zero => intro s h; exact absurd h (Nat.not_lt_zero s)
      | succ M ih =>
        intro s hs hm hg hi
        rcases Nat.lt_trichotomy s q with k | k | k
        · rw [isIC_lo (by omega) k] at hi; exact absurd hi Bool.false_ne_true
        · rw [k]
        · obtain ⟨-, -, -, -, hrt, -, -⟩ := hst s hm
          rcases hrt with z | ⟨r, hr, z⟩
          · rw [isIC_6 (by omega) k z] at hi; exact absurd hi Bool.false_ne_true
          · rw [isIC_s hst h40 hm k hr z] at hi
            rw [gdS hst hm h40, z, decide_eq_false (nI_pos (by omega)), Bool.false_or, nI_clamp (by omega)] at hg
            have h4 := (Bool.and_eq_true_iff.mp (Bool.and_eq_true_iff.mp hg).2).2
            obtain ⟨hb, hgr⟩ := Bool.and_eq_true_iff.mp h4
            unfold basedM at hb
            rw [if_neg (by rw [z]; exact nI_pos (by omega)), rtM_n z (by omega)] at hb
            rw [← of_decide_eq_true (Bool.and_eq_true_iff.mp hb).1]
            exact ih r (by omega) (by omega) hgr hi
    cases hc : isIC f q s with
    | false => rfl
    | true => exact absurd (hic (s + 1) s (by omega) hm hg hc) hpg
