theorem wHW_f {D : DT} {a : Nat → Nat} {f g : Nat → Int32} {na : Nat → Nat → Int32} {w : Nat → Int32} (h : f = g) : wHW D a f na w = wHW D a g na w := by rw [h]
theorem up_cm (f : Nat → Int32) {j k : Nat} (x y : Int32) (h : j ≠ k) : up (up f j x) k y = up (up f k y) j x := by
  funext m
  rw [up_e, up_e, up_e, up_e]
  by_cases h1 : m = k
  · subst h1; rw [if_pos rfl, if_pos rfl, if_neg (fun z => h z.symm)]
  · rw [if_neg h1, if_neg h1]
theorem addF_mk (f : Nat → Int32) (mk : Nat) (gv hd pg rt ro fo : Int32) :
    up (up (up (up (up (up (up (up f (127 + 1 + 7 * mk) gv) (127 + 2 + 7 * mk) hd) (127 + 0 + 7 * mk) pg) (127 + 3 + 7 * mk) rt) (127 + 4 + 7 * mk) ro) (127 + 5 + 7 * mk) fo) (127 + 6 + 7 * mk) 0) 76 (nI (mk + 1)) = mkF f mk gv hd pg rt ro fo := by
  have e : ∀ w, 127 + w + 7 * mk = 127 + 7 * mk + w := fun w => by omega
  rw [e, e, e, e, e, e, e]
  unfold mkF
  rw [up_cm (up f (127 + 7 * mk + 1) gv) hd pg (by omega), up_cm f gv pg (by omega)]
theorem up_at {α : Type} {f : Nat → α} {k : Nat} {v : α} (h : f k = v) : up f k v = f := by
  funext j
  rw [up_e]
  by_cases e : j = k
  · rw [if_pos e, e, h]
  · rw [if_neg e]
theorem addF_0 {f : Nat → Int32} {mk : Nat} {gv hd pg rt ro : Int32} (z5 : f (127 + 5 + 7 * mk) = 0) (z6 : f (127 + 6 + 7 * mk) = 0) :
    up (up (up (up (up (up f (127 + 1 + 7 * mk) gv) (127 + 2 + 7 * mk) hd) (127 + 0 + 7 * mk) pg) (127 + 3 + 7 * mk) rt) (127 + 4 + 7 * mk) ro) 76 (nI (mk + 1)) = mkF f mk gv hd pg rt ro (b2i false) := by
  rw [← addF_mk, show b2i false = 0 from rfl]
  rw [up_at (f := up (up (up (up (up f (127 + 1 + 7 * mk) gv) (127 + 2 + 7 * mk) hd) (127 + 0 + 7 * mk) pg) (127 + 3 + 7 * mk) rt) (127 + 4 + 7 * mk) ro) (k := 127 + 5 + 7 * mk) (v := 0) (by rw [up_n _ _ (by omega), up_n _ _ (by omega), up_n _ _ (by omega), up_n _ _ (by omega), up_n _ _ (by omega)]; exact z5)]
  rw [up_at (f := up (up (up (up (up f (127 + 1 + 7 * mk) gv) (127 + 2 + 7 * mk) hd) (127 + 0 + 7 * mk) pg) (127 + 3 + 7 * mk) rt) (127 + 4 + 7 * mk) ro) (k := 127 + 6 + 7 * mk) (v := 0) (by rw [up_n _ _ (by omega), up_n _ _ (by omega), up_n _ _ (by omega), up_n _ _ (by omega), up_n _ _ (by omega)]; exact z6)]
theorem addF_1 {f : Nat → Int32} {mk : Nat} {gv hd pg rt ro : Int32} (z6 : f (127 + 6 + 7 * mk) = 0) :
    up (up (up (up (up (up (up f (127 + 1 + 7 * mk) gv) (127 + 2 + 7 * mk) hd) (127 + 0 + 7 * mk) pg) (127 + 3 + 7 * mk) rt) (127 + 4 + 7 * mk) ro) (127 + 5 + 7 * mk) 1) 76 (nI (mk + 1)) = mkF f mk gv hd pg rt ro (b2i true) := by
  rw [← addF_mk, show b2i true = 1 from rfl]
  rw [up_at (f := up (up (up (up (up (up f (127 + 1 + 7 * mk) gv) (127 + 2 + 7 * mk) hd) (127 + 0 + 7 * mk) pg) (127 + 3 + 7 * mk) rt) (127 + 4 + 7 * mk) ro) (127 + 5 + 7 * mk) 1) (k := 127 + 6 + 7 * mk) (v := 0) (by rw [up_n _ _ (by omega), up_n _ _ (by omega), up_n _ _ (by omega), up_n _ _ (by omega), up_n _ _ (by omega), up_n _ _ (by omega)]; exact z6)]
/-- both flags 0, or one of them not -/
theorem or2_f {A B : Prop} [Decidable A] [Decidable B] (h : (!decide A || !decide B) = false) : A ∧ B := by
  by_cases a : A
  · by_cases b : B
    · exact ⟨a, b⟩
    · rw [decide_eq_false b] at h; simp at h
  · rw [decide_eq_false a] at h; simp at h
theorem or2_t {A B : Prop} [Decidable A] [Decidable B] (h : (!decide A || !decide B) = true) : ¬ A ∨ ¬ B := by
  by_cases a : A
  · by_cases b : B
    · rw [decide_eq_true a, decide_eq_true b] at h; simp at h
    · exact Or.inr b
  · exact Or.inl a
theorem mkB_2 {f : Nat → Int32} {k : Nat} (hk : k < 40) : (mkB f 5 ||| mkB f 6).testBit k = (!decide (ofM f k 5 = 0) || !decide (ofM f k 6 = 0)) := by
  rw [Nat.testBit_or, mkB_bit hk, mkB_bit hk]
  rfl
theorem rng_nI' {n r : Nat} (h : r < n) (h2 : n < 2 ^ 31) : rng n (nI r) = true := by
  unfold rng
  exact decide_eq_true ⟨by rw [nI_toInt (by omega)]; omega, by rw [nI_toInt (by omega)]; omega⟩
theorem rng_6 (n : Nat) : rng n (-6) = false := by
  unfold rng
  exact decide_eq_false (fun z => absurd z.1 (by decide))
theorem ch_x {k mk : Nat} {x : Int32} (hx : x = -6 ∨ ∃ r : Nat, r < k ∧ r < mk ∧ x = nI r) (h : rng mk x = true) : ∃ r : Nat, r < k ∧ r < mk ∧ x = nI r := by
  rcases hx with z | z
  · rw [z, rng_6] at h; exact absurd h (by decide)
  · exact z
theorem rt_has {mk s : Nat} {x : Int32} (hx : x = -6 ∨ ∃ r : Nat, r < s ∧ x = nI r) (h : rng mk x = true) : ∃ r : Nat, r < s ∧ x = nI r := by
  rcases hx with z | z
  · rw [z, rng_6] at h; exact absurd h (by decide)
  · exact z
/-! chains by their roots -/
theorem icI_more (f : Nat → Int32) (q mk : Nat) (hq4 : q < 40) (hst : ∀ s, s < mk → stOK f s) (hmk : mk ≤ 40) : ∀ (k j s : Nat), s < mk → s ≤ q + k → s ≤ q + j → icI f q k (nI s) = icI f q j (nI s)
  | 0, j, s, hs, h1, h2 => by
    cases j with
    | zero => rfl
    | succ j => rw [icI, icI, if_neg (fun z => by have := nj_lt (a := q) (b := s) (by omega) (by omega) z; omega)]
  | k + 1, j, s, hs, h1, h2 => by
    cases j with
    | zero => rw [icI, icI, if_neg (fun z => by have := nj_lt (a := q) (b := s) (by omega) (by omega) z; omega)]
    | succ j =>
      rw [icI, icI, nI_clamp (by omega)]
      by_cases hq : nI q < nI s
      · rw [if_pos hq, if_pos hq]
        obtain ⟨-, -, -, -, hrt, -, -⟩ := hst s hs
        rcases hrt with z | ⟨r, hr, z⟩
        · rw [z]
          have e : ∀ n, icI f q n (-6) = decide ((-6 : Int32) = nI q) := fun n => by
            cases n with
            | zero => rfl
            | succ n => rw [icI, if_neg (fun z => by have h3 := ic_lt z; rw [nI_toInt (by omega)] at h3; have : ((-6 : Int32)).toInt = -6 := by decide
                                                     omega)]
          rw [e, e]
        · rw [z]
          exact icI_more f q mk hq4 hst hmk k j r (by omega) (by omega) (by omega)
      · rw [if_neg hq, if_neg hq]
theorem isIC_s {f : Nat → Int32} {q mk s r : Nat} (hst : ∀ s, s < mk → stOK f s) (hmk : mk ≤ 40) (hs : s < mk) (hq : q < s) (hr : r < s) (er : ofM f s 4 = nI r) : isIC f q s = isIC f q r := by
  unfold isIC
  rw [icI, nI_clamp (by omega), er, if_pos ((nI_ltI (by omega) (by omega)).mpr hq)]
  exact icI_more f q mk (by omega) hst hmk 40 41 r (by omega) (by omega) (by omega)
theorem isIC_6 {f : Nat → Int32} {q s : Nat} (hs : s < 40) (hq : q < s) (er : ofM f s 4 = -6) : isIC f q s = false := by
  unfold isIC
  rw [icI, nI_clamp (by omega), er, if_pos ((nI_ltI (by omega) (by omega)).mpr hq), icI, if_neg (fun z => by
    have h3 := ic_lt z
    rw [nI_toInt (by omega)] at h3
    have : ((-6 : Int32)).toInt = -6 := by decide
    omega)]
  exact decide_eq_false (fun z => by
    have h3 := congrArg Int32.toInt z
    rw [nI_toInt (by omega)] at h3
    have : ((-6 : Int32)).toInt = -6 := by decide
    omega)
theorem isIC_q {f : Nat → Int32} {q : Nat} (h : q < 40) : isIC f q q = true := by
  unfold isIC
  rw [icI, if_neg (fun z => by have := nj_lt (a := q) (b := q) (by omega) (by omega) z; omega)]
  exact decide_eq_true rfl
theorem isIC_lo {f : Nat → Int32} {q s : Nat} (h : q < 40) (hs : s < q) : isIC f q s = false := by
  unfold isIC
  rw [icI, if_neg (fun z => by have := nj_lt (a := q) (b := s) (by omega) (by omega) z; omega)]
  exact decide_eq_false (fun z => by
    have h3 := congrArg Int32.toInt z
    rw [nI_toInt (by omega), nI_toInt (by omega)] at h3
    omega)
def bhP (f : Nat → Int32) (q s : Nat) : Bool := isIC f q s
theorem bh_0 (f : Nat → Int32) {q : Nat} (h : q < 40) : 2 ^ q = mskN (bhP f q) (q + 1) := by
  have e : mskN (bhP f q) q = 0 := by
    apply Nat.eq_of_testBit_eq
    intro i
    rw [mskN_bit, Nat.zero_testBit]
    by_cases hi : i < q
    · rw [show bhP f q i = false from isIC_lo h hi, Bool.and_false]
    · rw [decide_eq_false hi, Bool.false_and]
  rw [mskN, if_pos (show bhP f q q = true from isIC_q h), e, Nat.zero_or]
theorem bh_end {f : Nat → Int32} {q mk M : Nat} (hM : M = mskN (bhP f q) mk) (hq : q < mk) (h40 : mk ≤ 40) : nI (cnI M.testBit 64) - 1 = nI (bhN f q mk) := by
  have h : ∀ n, q < n → cnI (bhP f q) n = bhN f q n + 1 := by
    intro n
    induction n with
    | zero => intro h; omega
    | succ n ih =>
      intro hn
      unfold bhN at ih ⊢
      rw [cnI, cnI]
      rcases Nat.lt_or_ge q n with z | z
      · rw [ih z, show bhP f q n = isIC f q n from rfl, decide_eq_true z, Bool.true_and]
        omega
      · have e : n = q := by omega
        subst e
        rw [show bhP f n n = true from isIC_q (by omega), decide_eq_false (by omega), Bool.false_and, if_pos rfl, if_neg Bool.false_ne_true]
        rw [cnI_0 (n := n) (P := bhP f n) (fun k hk => isIC_lo (by omega) hk), cnI_0 (n := n) (fun k hk => by rw [decide_eq_false (by omega), Bool.false_and])]
  rw [hM, cnI_msk (by omega), h mk hq]
  exact (pk_sub (a := bhN f q mk + 1) (b := 1) (by omega))
theorem bh_t {f : Nat → Int32} {q mk i r M : Nat} (hst : ∀ s, s < mk → stOK f s) (h40 : mk ≤ 40) (hi : i < mk) (hq : q < i) (hr : r < i) (er : ofM f i 4 = nI r) (hM : M = mskN (bhP f q) i) : bhP f q i = M.testBit r := by
  rw [hM, mskN_bit, decide_eq_true hr, Bool.true_and]
  exact isIC_s hst h40 hi hq hr er
theorem bh_z {f : Nat → Int32} {q mk i : Nat} (h40 : mk ≤ 40) (hi : i < mk) (hq : q < i) (hrt : ofM f i 4 = -6 ∨ ∃ r : Nat, r < i ∧ ofM f i 4 = nI r) (h : rng mk (ofM f i 4) = false) : bhP f q i = false := by
  rcases hrt with z | ⟨r, hr, z⟩
  · exact isIC_6 (by omega) hq z
  · rw [z, rng_nI' (by omega) (by omega)] at h; exact absurd h (by decide)
