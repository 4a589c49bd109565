theorem rt_sub : ∀ a, a < 8 → ∀ b, b < 8 → (((nI a ||| 4) &&& (nI b ^^^ (-1 : Int32)) = 0) ↔ (¬ nI b &&& 4 = 0 ∧ nI b &&& nI a = nI a)) := by decide +kernel
/-- the row as if a stamp (none: -6) was taken back -/
def fW (f : Nat → Int32) (x : Int32) : Nat → Int32 := if x = -6 then f else up f (127 + 7 * x.toNatClampNeg + 6) 1
theorem fW_6 (f : Nat → Int32) : fW f (-6) = f := if_pos rfl
theorem nI_n6 {q : Nat} (h : q < 2 ^ 31) : ¬ nI q = -6 := fun z => by have h1 := nI_pos (n := q) h; rw [z] at h1; exact h1 neg6
theorem fW_q (f : Nat → Int32) {q : Nat} (h : q < 40) : fW f (nI q) = up f (127 + 7 * q + 6) 1 := by unfold fW; rw [if_neg (nI_n6 (by omega)), nI_clamp (by omega)]
theorem fW_of {f : Nat → Int32} {x : Int32} {mk s w : Nat} (hx : x = -6 ∨ ∃ q : Nat, q < mk ∧ x = nI q) (h40 : mk ≤ 40) (hw : w < 6) : ofM (fW f x) s w = ofM f s w := by
  rcases hx with z | ⟨q, hq, z⟩
  · rw [z, fW_6]
  · rw [z, fW_q f (by omega)]; exact up_n _ _ (by omega)
theorem fW_lo {f : Nat → Int32} {x : Int32} {mk m : Nat} (hx : x = -6 ∨ ∃ q : Nat, q < mk ∧ x = nI q) (h40 : mk ≤ 40) (hm : m < 127) : fW f x m = f m := by
  rcases hx with z | ⟨q, hq, z⟩
  · rw [z, fW_6]
  · rw [z, fW_q f (by omega)]; exact up_n _ _ (by omega)
theorem fW_6t {f : Nat → Int32} {x : Int32} {mk s : Nat} (hx : x = -6 ∨ ∃ q : Nat, q < mk ∧ x = nI q) (h40 : mk ≤ 40) (hs : s < 40) : ofM (fW f x) s 6 = if nI s = x then 1 else ofM f s 6 := by
  rcases hx with z | ⟨q, hq, z⟩
  · rw [z, fW_6, if_neg (nI_n6 (by omega))]
  · rw [z, fW_q f (by omega)]
    by_cases h : s = q
    · subst h; rw [if_pos rfl]; exact (congrArg (up f _ 1) (by omega)).trans (up_s _ _ _)
    · rw [if_neg (fun z2 => h (by have := congrArg Int32.toInt z2; rw [nI_toInt (by omega), nI_toInt (by omega)] at this; omega))]
      exact up_n _ _ (by omega)
theorem based_c {f g : Nat → Int32} {s : Nat} (h : ∀ s w, w < 6 → ofM g s w = ofM f s w) (hl : ∀ m, m < 127 → g m = f m) (hp : (ofM f s 0).toNatClampNeg < 12) : basedM g s = basedM f s := by
  unfold basedM rtM
  rw [h s 4 (by omega), h s 1 (by omega), h s 0 (by omega), h s 3 (by omega), h _ 0 (by omega), h _ 2 (by omega), h _ 3 (by omega), hl _ (by omega)]
theorem gdW_s {f : Nat → Int32} {x : Int32} {mk s : Nat} (hx : x = -6 ∨ ∃ q : Nat, q < mk ∧ x = nI q) (h40 : mk ≤ 40) (hs : s < mk) (hst : stOK f s) :
    gd (fW f x) s = (decide (¬ nI s = x) && (decide (ofM f s 5 = 0) && (decide (ofM f s 6 = 0) && (basedM f s && (decide (ofM f s 4 = -6) || gd (fW f x) (rtM f s)))))) := by
  obtain ⟨⟨p, hp, ep⟩, -, -, -, hrt, -, -⟩ := hst
  have e4 : ofM (fW f x) s 4 = ofM f s 4 := fW_of hx h40 (by omega)
  have er : rtM (fW f x) s = rtM f s := by unfold rtM; rw [e4]
  have h1 : ofM (fW f x) s 4 < 0 ∨ rtM (fW f x) s < s := by
    rw [e4, er]
    rcases hrt with z | ⟨r, hr, z⟩
    · exact Or.inl (by rw [z]; exact neg6)
    · exact Or.inr (by unfold rtM; rw [z, nI_clamp (by omega)]; exact hr)
  rw [gd_step h1]
  unfold gdStep
  rw [e4, er, fW_of hx h40 (by omega), fW_6t hx h40 (by omega), based_c (f := f) (fun s w hw => fW_of hx h40 hw) (fun m hm => fW_lo hx h40 hm) (by rw [ep, nI_clamp (by omega)]; exact hp)]
  have e6 : decide (ofM f s 4 < 0) = decide (ofM f s 4 = -6) := by
    rcases hrt with z | ⟨r, hr, z⟩
    · rw [z]; decide
    · rw [z, decide_eq_false (nI_pos (by omega)), decide_eq_false (nI_n6 (by omega))]
  rw [e6]
  by_cases h : nI s = x
  · rw [if_pos h, decide_eq_false (not_not_intro h), decide_eq_false (by decide : ¬ (1 : Int32) = 0)]; simp
  · rw [if_neg h, decide_eq_true h, Bool.true_and]
theorem rtM_n {f : Nat → Int32} {s r : Nat} (h : ofM f s 4 = nI r) (hr : r < 2 ^ 31) : rtM f s = r := by unfold rtM; rw [h]; exact nI_clamp hr
theorem whI_c {f g : Nat → Int32} {G : Nat → Bool} {p : Nat} {rt : Int32} (h : ∀ s w, w < 6 → ofM g s w = ofM f s w) (hp : g (4 + p) = f (4 + p)) : ∀ n, whI g G p rt n = whI f G p rt n
  | 0 => by rw [whI, whI]; unfold whO; rw [hp]
  | n + 1 => by rw [whI, whI, whI_c h hp n, h n 0 (by omega), h n 3 (by omega), h n 2 (by omega)]
theorem ndI_msk {P : Nat → Bool} : ∀ n, n ≤ 64 → ndI P n = lN (mskN P n)
  | 0, _ => rfl
  | n + 1, h => by
    rw [ndI, mskN, ndI_msk n (by omega)]
    by_cases hp : P n = true
    · rw [if_pos hp, if_pos hp]; exact lmsk (msk64 (by omega)) (by omega)
    · rw [if_neg hp, if_neg hp]; exact (wb_inj (by rw [Int64.toBitVec_or]; exact BitVec.or_zero))
theorem msk_and {P Q : Nat → Bool} {n : Nat} (h : n ≤ 64) : lN (mskN P n) &&& lN (mskN Q n) = lN (mskN (fun k => P k && Q k) n) := by
  rw [wb_and (msk64 h) (msk64 h)]
  congr 1
  apply Nat.eq_of_testBit_eq
  intro i
  rw [Nat.testBit_and, mskN_bit, mskN_bit, mskN_bit]
  cases decide (i < n) <;> simp
theorem msk_dif {P Q : Nat → Bool} {n : Nat} (h : n ≤ 64) : lN (mskN P n) &&& (lN (mskN Q n) ^^^ (-1 : Int64)) = lN (mskN (fun k => P k && !Q k) n) := by
  apply wb_inj
  rw [Int64.toBitVec_and, Int64.toBitVec_xor, wb_tb, wb_tb, wb_tb]
  apply BitVec.eq_of_getLsbD_eq
  intro i hi
  have e1 : ((-1 : Int64).toBitVec).getLsbD i = true := by
    have : (-1 : Int64).toBitVec = BitVec.allOnes 64 := by decide
    rw [this, BitVec.getLsbD_allOnes]; exact decide_eq_true hi
  rw [BitVec.getLsbD_and, BitVec.getLsbD_xor, e1, BitVec.getLsbD_ofNat, BitVec.getLsbD_ofNat, BitVec.getLsbD_ofNat, mskN_bit, mskN_bit, mskN_bit, decide_eq_true hi]
  cases decide (i < n) <;> simp
def lgL (f : Nat → Int32) (n : Nat) : Nat := if lgI f n < 0 then 0 else chN f (lgI f n)
theorem lgI_x (f : Nat → Int32) : ∀ n, lgI f n = -6 ∨ ∃ r : Nat, r < n ∧ lgI f n = nI r
  | 0 => Or.inl rfl
  | n + 1 => by
    rw [lgI]
    split
    · exact Or.inr ⟨n, by omega, rfl⟩
    · rcases lgI_x f n with z | ⟨r, hr, z⟩
      · exact Or.inl z
      · exact Or.inr ⟨r, by omega, z⟩
theorem chN_1 {f : Nat → Int32} {q : Nat} (h : q < 2 ^ 31) : 1 ≤ chN f (nI q) := by
  unfold chN
  rw [chI, if_neg (nI_pos h)]
  have : ∀ k s n, n ≤ chI f k s n := by
    intro k
    induction k with
    | zero => intro s n; exact Nat.le_refl _
    | succ k ih =>
      intro s n
      rw [chI]
      split
      · exact Nat.le_refl _
      · exact Nat.le_trans (Nat.le_succ n) (ih _ (n + 1))
  exact this 40 _ 1
theorem lgL_le (f : Nat → Int32) (n : Nat) : lgL f n ≤ 41 := by unfold lgL; split; omega; exact chN_le f _
theorem lg_t {f : Nat → Int32} {i : Nat} (hi : i < 100) (h1 : gd f i = true) (h2 : lgL f i < chN f (nI i)) : lgI f (i + 1) = nI i ∧ lgL f (i + 1) = chN f (nI i) := by
  have e : lgI f (i + 1) = nI i := by
    rw [lgI, if_pos]
    rw [h1, Bool.true_and, Bool.or_eq_true_iff]
    unfold lgL at h2
    by_cases h : lgI f i < 0
    · exact Or.inl (decide_eq_true h)
    · rw [if_neg h] at h2; exact Or.inr (decide_eq_true h2)
  refine ⟨e, ?_⟩
  unfold lgL
  rw [e, if_neg (nI_pos (by omega))]
theorem lg_f {f : Nat → Int32} {i : Nat} (hi : i < 100) (h : gd f i = false ∨ chN f (nI i) ≤ lgL f i) : lgI f (i + 1) = lgI f i ∧ lgL f (i + 1) = lgL f i := by
  have e : lgI f (i + 1) = lgI f i := by
    rw [lgI, if_neg]
    intro z
    obtain ⟨z1, z2⟩ := Bool.and_eq_true_iff.mp z
    rcases h with h | h
    · rw [h] at z1; exact absurd z1 (by decide)
    · have h3 := chN_1 (f := f) (q := i) (by omega)
      unfold lgL at h
      rcases Bool.or_eq_true_iff.mp z2 with q | q
      · rw [if_pos (of_decide_eq_true q)] at h; omega
      · by_cases h4 : lgI f i < 0
        · rw [if_pos h4] at h; omega
        · rw [if_neg h4] at h
          have := of_decide_eq_true q
          omega
  refine ⟨e, ?_⟩
  unfold lgL
  rw [e]
