/-! ===== Long.bitCount's reckoning, byte by byte ===== -/
theorem and_sp (a c m k : Nat) (ha : a < 256) (hm : m < 256) : (a + 256 * c) &&& (m + 256 * k) = (a &&& m) + 256 * (c &&& k) := by
  have h1 := Nat.and_mod_two_pow (a := a + 256 * c) (b := m + 256 * k) (n := 8)
  have h2 := Nat.and_div_two_pow (a := a + 256 * c) (b := m + 256 * k) (n := 8)
  rw [show (2 : Nat) ^ 8 = 256 from rfl] at h1 h2
  rw [show (a + 256 * c) % 256 = a from by omega, show (m + 256 * k) % 256 = m from by omega] at h1
  rw [show (a + 256 * c) / 256 = c from by omega, show (m + 256 * k) / 256 = k from by omega] at h2
  omega
def bcM (m : Nat) : Nat → Nat
  | 0 => 0
  | k + 1 => m + 256 * bcM m k
def bcY (A n : Nat) : Nat := n - (n / 2 &&& A)
def bcZ (B y : Nat) : Nat := (y &&& B) + (y / 4 &&& B)
def bcW (C z : Nat) : Nat := (z + z / 16) &&& C
def bc8 (a : Nat) : Nat := bcW 15 (bcZ 51 (bcY 85 a))
def bcS : Nat → Nat → Nat
  | 0, _ => 0
  | k + 1, n => bc8 (n % 256) + 256 * bcS k (n / 256)
theorem bc_a : ∀ a, a < 256 → ∀ b, b < 2 → (a / 2 + 128 * b) &&& 85 = (a / 2 &&& 85) := by decide +kernel
theorem bc_b : ∀ a, a < 256 → ∀ b, b < 4 → (a / 4 + 64 * b) &&& 51 = (a / 4 &&& 51) := by decide +kernel
theorem bcY_s {a c A : Nat} (ha : a < 256) : bcY (85 + 256 * A) (a + 256 * c) = bcY 85 a + 256 * bcY A c := by
  unfold bcY
  have h : (a + 256 * c) / 2 &&& (85 + 256 * A) = (a / 2 &&& 85) + 256 * (c / 2 &&& A) := by
    rw [show (a + 256 * c) / 2 = (a / 2 + 128 * (c % 2)) + 256 * (c / 2) from by omega, and_sp _ _ _ _ (by omega) (by omega), bc_a a ha (c % 2) (by omega)]
  rw [h]
  have h1 := Nat.and_le_left (n := a / 2) (m := 85)
  have h2 := Nat.and_le_left (n := c / 2) (m := A)
  omega
theorem bcZ_s {y c B : Nat} (ha : y < 256) : bcZ (51 + 256 * B) (y + 256 * c) = bcZ 51 y + 256 * bcZ B c := by
  unfold bcZ
  rw [and_sp _ _ _ _ ha (by omega), show (y + 256 * c) / 4 = (y / 4 + 64 * (c % 4)) + 256 * (c / 4) from by omega, and_sp _ _ _ _ (by omega) (by omega), bc_b y ha (c % 4) (by omega)]
  omega
theorem bcZ_n {B y : Nat} (h : B % 16 = 0 ∨ B % 16 = 3) : bcZ B y % 16 ≤ 6 := by
  unfold bcZ
  have h1 := Nat.and_mod_two_pow (a := y) (b := B) (n := 4)
  have h2 := Nat.and_mod_two_pow (a := y / 4) (b := B) (n := 4)
  rw [show (2 : Nat) ^ 4 = 16 from rfl] at h1 h2
  have h3 := Nat.and_le_right (n := y % 16) (m := B % 16)
  have h4 := Nat.and_le_right (n := y / 4 % 16) (m := B % 16)
  omega
theorem bcW_s {z c C : Nat} (hz : z ≤ 102) (hc : c % 16 ≤ 6) : bcW (15 + 256 * C) (z + 256 * c) = bcW 15 z + 256 * bcW C c := by
  unfold bcW
  rw [show z + 256 * c + (z + 256 * c) / 16 = (z + z / 16 + 16 * (c % 16)) + 256 * (c + c / 16) from by omega, and_sp _ _ _ _ (by omega) (by omega)]
  have e : ∀ x, x &&& 15 = x % 16 := fun x => Nat.and_two_pow_sub_one_eq_mod x 4
  rw [e, e]
  omega
theorem bc_z : ∀ a, a < 256 → bcY 85 a < 256 ∧ bcZ 51 (bcY 85 a) ≤ 102 := by decide +kernel
theorem bcM_16 (k : Nat) : bcM 51 k % 16 = 0 ∨ bcM 51 k % 16 = 3 := by
  cases k with
  | zero => exact Or.inl rfl
  | succ k => rw [bcM]; omega
theorem bc_all : ∀ (k n : Nat), n < 256 ^ k → bcW (bcM 15 k) (bcZ (bcM 51 k) (bcY (bcM 85 k) n)) = bcS k n
  | 0, n, h => by
    have : n = 0 := by rw [Nat.pow_zero] at h; omega
    subst this; decide
  | k + 1, n, h => by
    have hk : n / 256 < 256 ^ k := by rw [Nat.pow_succ] at h; omega
    have hn : n = n % 256 + 256 * (n / 256) := by omega
    obtain ⟨h1, h2⟩ := bc_z (n % 256) (by omega)
    rw [bcS, ← bc_all k (n / 256) hk]
    conv => lhs; rw [hn]
    rw [bcM, bcM, bcM, bcY_s (by omega), bcZ_s h1, bcW_s h2 (bcZ_n (bcM_16 k))]
    rfl
theorem bc8_c : ∀ a, a < 256 → bc8 a = cnI a.testBit 8 := by decide +kernel
theorem cnI_sp (P : Nat → Bool) (j : Nat) : ∀ k, cnI P (k + j) = cnI P j + cnI (fun i => P (i + j)) k
  | 0 => by rw [Nat.zero_add]; rfl
  | k + 1 => by rw [show k + 1 + j = (k + j) + 1 from by omega, cnI, cnI, cnI_sp P j k]; omega
/-- the bytes' counts summed -/
def bcT : Nat → Nat → Nat
  | 0, _ => 0
  | k + 1, n => bc8 (n % 256) + bcT k (n / 256)
theorem bcT_c : ∀ (k n : Nat), bcT k n = cnI n.testBit (8 * k)
  | 0, n => rfl
  | k + 1, n => by
    rw [bcT, bcT_c k, show 8 * (k + 1) = 8 * k + 8 from by omega, cnI_sp, bc8_c _ (by omega)]
    congr 1
    · exact cnI_P 8 (fun i hi => by
        have := Nat.testBit_mod_two_pow n 8 i
        rw [show (2 : Nat) ^ 8 = 256 from rfl] at this
        rw [this]; simp [hi])
    · exact cnI_P _ (fun i hi => by
        show (n / 2 ^ 8).testBit i = n.testBit (i + 8)
        rw [Nat.testBit_div_two_pow])
theorem bc8_l (n : Nat) : bc8 (n % 256) ≤ 8 := by rw [bc8_c _ (by omega)]; exact cnI_le _ _
theorem bcE {p0 p1 p2 p3 p4 p5 p6 p7 r0 r1 r2 r3 r4 r5 r6 : Nat} (h0 : p0 ≤ 8) (h1 : p1 ≤ 8) (h2 : p2 ≤ 8) (h3 : p3 ≤ 8) (h4 : p4 ≤ 8) (h5 : p5 ≤ 8) (h6 : p6 ≤ 8) (h7 : p7 ≤ 8)
    (e6 : r6 = p6 + 256 * p7) (e5 : r5 = p5 + 256 * r6) (e4 : r4 = p4 + 256 * r5) (e3 : r3 = p3 + 256 * r4) (e2 : r2 = p2 + 256 * r3) (e1 : r1 = p1 + 256 * r2) (e0 : r0 = p0 + 256 * r1) :
    r0 < 2 ^ 60 ∧ ((r0 + r0 / 2 ^ 8 + (r0 + r0 / 2 ^ 8) / 2 ^ 16) + (r0 + r0 / 2 ^ 8 + (r0 + r0 / 2 ^ 8) / 2 ^ 16) / 2 ^ 32) % 128 = p0 + p1 + p2 + p3 + p4 + p5 + p6 + p7 := by
  have b6 : r6 ≤ 2056 := by omega
  have b5 : r5 ≤ 526344 := by omega
  have b4 : r4 ≤ 134744072 := by omega
  refine ⟨by omega, ?_⟩
  have d1 : r0 / 2 ^ 8 = r1 := by omega
  rw [d1]
  have d2 : (r0 + r1) / 2 ^ 16 = r2 + r3 := by
    have f0 : r0 = p0 + 256 * p1 + 65536 * r2 := by omega
    have f1 : r1 = p1 + 256 * p2 + 65536 * r3 := by omega
    omega
  rw [d2]
  have d3 : (r0 + r1 + (r2 + r3)) / 2 ^ 32 = r4 + r5 + r6 + p7 := by
    have g3 : r3 = p3 + 256 * p4 + 65536 * (p5 + 256 * p6) + 4294967296 * p7 := by omega
    have g2 : r2 = p2 + 256 * p3 + 65536 * (p4 + 256 * p5) + 4294967296 * r6 := by omega
    have g1 : r1 = p1 + 256 * p2 + 65536 * (p3 + 256 * p4) + 4294967296 * r5 := by omega
    have g0 : r0 = p0 + 256 * p1 + 65536 * (p2 + 256 * p3) + 4294967296 * r4 := by omega
    clear e6 e5 e4 e3 e2 e1 e0 d1 d2 b6 b5 b4
    omega
  rw [d3]
  omega
theorem bcS_end (n : Nat) : bcS 8 n < 2 ^ 60 ∧ ((bcS 8 n + bcS 8 n / 2 ^ 8 + (bcS 8 n + bcS 8 n / 2 ^ 8) / 2 ^ 16) + (bcS 8 n + bcS 8 n / 2 ^ 8 + (bcS 8 n + bcS 8 n / 2 ^ 8) / 2 ^ 16) / 2 ^ 32) % 128 = bcT 8 n := by
  have h := bcE (bc8_l n) (bc8_l (n / 256)) (bc8_l (n / 256 / 256)) (bc8_l (n / 256 / 256 / 256)) (bc8_l (n / 256 / 256 / 256 / 256)) (bc8_l (n / 256 / 256 / 256 / 256 / 256)) (bc8_l (n / 256 / 256 / 256 / 256 / 256 / 256)) (bc8_l (n / 256 / 256 / 256 / 256 / 256 / 256 / 256)) rfl rfl rfl rfl rfl rfl rfl
  have e : ∀ x, bcS 1 x = bc8 (x % 256) := fun x => by rw [bcS, bcS, Nat.mul_zero, Nat.add_zero]
  have eT : bcT 8 n = bc8 (n % 256) + bc8 (n / 256 % 256) + bc8 (n / 256 / 256 % 256) + bc8 (n / 256 / 256 / 256 % 256) + bc8 (n / 256 / 256 / 256 / 256 % 256) + bc8 (n / 256 / 256 / 256 / 256 / 256 % 256) + bc8 (n / 256 / 256 / 256 / 256 / 256 / 256 % 256) + bc8 (n / 256 / 256 / 256 / 256 / 256 / 256 / 256 % 256) := by
    rw [bcT, bcT, bcT, bcT, bcT, bcT, bcT, bcT, bcT]; omega
  have eS : bcS 8 n = bc8 (n % 256) + 256 * (bc8 (n / 256 % 256) + 256 * (bc8 (n / 256 / 256 % 256) + 256 * (bc8 (n / 256 / 256 / 256 % 256) + 256 * (bc8 (n / 256 / 256 / 256 / 256 % 256) + 256 * (bc8 (n / 256 / 256 / 256 / 256 / 256 % 256) + 256 * (bc8 (n / 256 / 256 / 256 / 256 / 256 / 256 % 256) + 256 * bc8 (n / 256 / 256 / 256 / 256 / 256 / 256 / 256 % 256))))))) := by
    rw [bcS, bcS, bcS, bcS, bcS, bcS, bcS, e]
  rw [eS, eT]
  exact h
theorem lN_c5 : (6148914691236517205 : Int64) = lN (bcM 85 8) := by decide +kernel
theorem lN_c3 : (3689348814741910323 : Int64) = lN (bcM 51 8) := by decide +kernel
theorem lN_cf : (1085102592571150095 : Int64) = lN (bcM 15 8) := by decide +kernel
theorem bc_1 {n : Nat} (h : n < 2 ^ 64) : lN n - (((lN n).toUInt64 >>> ((1 : Int32).toInt64.toUInt64 &&& Int64.toUInt64 63)).toInt64 &&& (6148914691236517205 : Int64)) = lN (bcY (bcM 85 8) n) := by
  rw [show (1 : Int32) = nI 1 from rfl, wb_shr (k := 1) h (by omega), lN_c5, wb_and (by omega) (by decide +kernel)]
  have h1 := Nat.and_le_left (n := n / 2 ^ 1) (m := bcM 85 8)
  exact lN_sub (by omega)
theorem bcY_lt {A n : Nat} (h : n < 2 ^ 64) : bcY A n < 2 ^ 64 := by unfold bcY; omega
theorem bc_2 {n : Nat} (h : n < 2 ^ 64) : (lN n &&& (3689348814741910323 : Int64)) + (((lN n).toUInt64 >>> ((2 : Int32).toInt64.toUInt64 &&& Int64.toUInt64 63)).toInt64 &&& (3689348814741910323 : Int64)) = lN (bcZ (bcM 51 8) n) := by
  rw [show (2 : Int32) = nI 2 from rfl, wb_shr (k := 2) h (by omega), lN_c3, wb_and h (by decide +kernel), wb_and (by omega) (by decide +kernel), lN_add]
  rfl
theorem bcZ_lt {n : Nat} : bcZ (bcM 51 8) n < 2 ^ 63 := by
  unfold bcZ
  have h1 := Nat.and_le_right (n := n) (m := bcM 51 8)
  have h2 := Nat.and_le_right (n := n / 4) (m := bcM 51 8)
  have h3 : bcM 51 8 < 2 ^ 62 := by decide +kernel
  omega
theorem bc_3 {n : Nat} (h : n < 2 ^ 63) : (lN n + ((lN n).toUInt64 >>> ((4 : Int32).toInt64.toUInt64 &&& Int64.toUInt64 63)).toInt64) &&& (1085102592571150095 : Int64) = lN (bcW (bcM 15 8) n) := by
  rw [show (4 : Int32) = nI 4 from rfl, wb_shr (k := 4) (by omega) (by omega), lN_cf, lN_add, wb_and (by omega) (by decide +kernel)]
  rfl
theorem bc_4 {n k : Nat} (h : n < 2 ^ 64) (hk : k < 64) : lN n + ((lN n).toUInt64 >>> ((nI k).toInt64.toUInt64 &&& Int64.toUInt64 63)).toInt64 = lN (n + n / 2 ^ k) := by
  rw [wb_shr h hk, lN_add]
theorem nI_127 (n : Nat) : nI n &&& 127 = nI (n % 128) := by
  apply Int32.toBitVec_inj.mp
  rw [Int32.toBitVec_and]
  apply BitVec.eq_of_toNat_eq
  rw [BitVec.toNat_and]
  show (BitVec.ofNat 32 n).toNat &&& (BitVec.ofNat 32 127).toNat = (BitVec.ofNat 32 (n % 128)).toNat
  rw [BitVec.toNat_ofNat, BitVec.toNat_ofNat, BitVec.toNat_ofNat, show 127 % 2 ^ 32 = 2 ^ 7 - 1 from rfl, Nat.and_two_pow_sub_one_eq_mod]
  omega
theorem bc_end {M : Nat} (h : M < 2 ^ 64) : bcW (bcM 15 8) (bcZ (bcM 51 8) (bcY (bcM 85 8) M)) = bcS 8 M ∧ bcT 8 M = cnI M.testBit 64 := ⟨bc_all 8 M (by rw [show 256 ^ 8 = 2 ^ 64 from rfl]; exact h), bcT_c 8 M⟩
theorem cnI_msk {P : Nat → Bool} {n : Nat} (h : n ≤ 64) : cnI (mskN P n).testBit 64 = cnI P n := by
  rw [show 64 = (64 - n) + n from by omega, cnI_sp]
  have h1 : cnI (mskN P n).testBit n = cnI P n := cnI_P n (fun k hk => by rw [mskN_bit]; simp [hk])
  have h2 : cnI (fun i => (mskN P n).testBit (i + n)) (64 - n) = 0 := cnI_0 (fun k hk => by rw [mskN_bit, decide_eq_false (by omega : ¬ k + n < n)]; rfl)
  omega
/-! ===== masks in the walks ===== -/
theorem lmsk {M k : Nat} (hM : M < 2 ^ 64) (hk : k < 64) : lN M ||| ((1 : Int64) <<< ((nI k).toInt64 &&& 63)) = lN (M ||| 2 ^ k) := by
  rw [lN_1shl hk, wb_or hM (Nat.pow_lt_pow_right (by decide) hk)]
theorem imsk {M k : Nat} (hM : M < 2 ^ 32) (hk : k < 32) : nI M ||| ((1 : Int32) <<< (nI k &&& 31)) = nI (M ||| 2 ^ k) := by
  rw [nI_1shl k hk, nI_or hM (Nat.pow_lt_pow_right (by decide) hk)]
theorem msk64 {P : Nat → Bool} {n : Nat} (h : n ≤ 64) : mskN P n < 2 ^ 64 := Nat.lt_of_lt_of_le (mskN_lt P n) (Nat.pow_le_pow_right (by decide) h)
theorem msk32 {P : Nat → Bool} {n : Nat} (h : n ≤ 32) : mskN P n < 2 ^ 32 := Nat.lt_of_lt_of_le (mskN_lt P n) (Nat.pow_le_pow_right (by decide) h)
theorem tb_1 {M k : Nat} (h : ¬ M / 2 ^ k % 2 = 0) : M.testBit k = true := by rw [Nat.testBit_eq_decide_div_mod_eq]; exact decide_eq_true (by omega)
theorem tb_0 {M k : Nat} (h : M / 2 ^ k % 2 = 0) : M.testBit k = false := by rw [Nat.testBit_eq_decide_div_mod_eq]; exact decide_eq_false (by omega)
theorem mskN_tt : ∀ n, mskN (fun _ => true) n + 1 = 2 ^ n
  | 0 => rfl
  | n + 1 => by
    have h := mskN_tt n
    have h2 := Nat.two_pow_add_eq_or_of_lt (i := n) (b := mskN (fun _ => true) n) (by omega) 1
    rw [Nat.mul_one] at h2
    rw [mskN, if_pos rfl, Nat.or_comm, ← h2, Nat.pow_succ]
    omega
theorem mskN_lo (P : Nat → Bool) (k : Nat) : ∀ n, k ≤ n → (∀ j, j < n → P j = decide (j < k)) → mskN P n + 1 = 2 ^ k
  | 0, h, _ => by rw [show k = 0 from by omega]; rfl
  | n + 1, h, hp => by
    rcases Nat.lt_or_ge n k with q | q
    · have e : n + 1 = k := by omega
      subst e
      rw [mskN_P (P' := fun _ => true) (n + 1) (fun j hj => by rw [hp j hj]; exact decide_eq_true hj)]
      exact mskN_tt (n + 1)
    · rw [mskN, if_neg (by rw [hp n (by omega)]; simp; omega)]
      exact mskN_lo P k n q (fun j hj => hp j (by omega))
