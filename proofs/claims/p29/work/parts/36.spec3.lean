/-! ===== what is asked of a state ===== -/
def whO (f : Nat → Int32) (p : Nat) : Int32 := if f (4 + p) < 0 then 0 else (1 : Int32) <<< (f (4 + p) &&& 31)
/-- who could use a page with a right, by the stamps G -/
def whI (f : Nat → Int32) (G : Nat → Bool) (p : Nat) (rt : Int32) : Nat → Int32
  | 0 => whO f p
  | n + 1 => whI f G p rt n ||| (if (G n && (decide (ofM f n 0 = nI p) && decide (¬ ofM f n 3 &&& rt = 0))) = true then (1 : Int32) <<< (ofM f n 2 &&& 31) else 0)
def cnI (P : Nat → Bool) : Nat → Nat
  | 0 => 0
  | n + 1 => cnI P n + (if P n = true then 1 else 0)
theorem cnI_le (P : Nat → Bool) : ∀ n, cnI P n ≤ n
  | 0 => Nat.le_refl 0
  | n + 1 => by have := cnI_le P n; rw [cnI]; split <;> omega
theorem cnI_P {P P' : Nat → Bool} : ∀ n, (∀ k, k < n → P k = P' k) → cnI P n = cnI P' n
  | 0, _ => rfl
  | n + 1, h => by rw [cnI, cnI, h n (by omega), cnI_P n (fun k hk => h k (by omega))]
def chI (f : Nat → Int32) : Nat → Int32 → Nat → Nat
  | 0, _, n => n
  | k + 1, s, n => if s < 0 then n else chI f k (ofM f s.toNatClampNeg 4) (n + 1)
/-- a chain's stamps -/
def chN (f : Nat → Int32) (s : Int32) : Nat := chI f 41 s 0
def icI (f : Nat → Int32) (q : Nat) : Nat → Int32 → Bool
  | 0, s => decide (s = nI q)
  | k + 1, s => if nI q < s then icI f q k (ofM f s.toNatClampNeg 4) else decide (s = nI q)
def isIC (f : Nat → Int32) (q s : Nat) : Bool := icI f q 41 (nI s)
def bhN (f : Nat → Int32) (q mk : Nat) : Nat := cnI (fun s => decide (q < s) && isIC f q s) mk
def hidM (f : Nat → Int32) (q mk : Nat) : Int32 :=
  whI f (gd f) (ofM f q 0).toNatClampNeg 1 mk &&& (whI (up f (127 + 7 * q + 6) 1) (gd (up f (127 + 7 * q + 6) 1)) (ofM f q 0).toNatClampNeg 1 mk ^^^ (-1))
def ndI (P : Nat → Bool) : Nat → Int64
  | 0 => 0
  | n + 1 => ndI P n ||| (if P n = true then (1 : Int64) <<< ((nI n).toInt64 &&& 63) else 0)
def lgI (f : Nat → Int32) : Nat → Int32
  | 0 => -6
  | n + 1 => if (gd f n && (decide (lgI f n < 0) || decide (chN f (lgI f n) < chN f (nI n)))) = true then nI n else lgI f n
def ofStampS (f : Nat → Int32) (x w : Int32) : Int32 :=
  if rng (mkN f) x = true then
    (if rng 7 w = true then ofM f x.toNatClampNeg w.toNatClampNeg else if w = 7 then b2i (gd f x.toNatClampNeg) else if w = 8 then nI (chN f x) else if w = 9 then nI (bhN f x.toNatClampNeg (mkN f)) else -2)
  else -1
def ofPageS (f : Nat → Int32) (x w : Int32) : Int32 :=
  if rng 12 x = true then
    (if w = 0 then f (4 + x.toNatClampNeg) else if w = 1 then whI f (gd f) x.toNatClampNeg 1 (mkN f) else if w = 2 then whI f (gd f) x.toNatClampNeg 2 (mkN f)
     else if w = 3 then nI (cnI (fun s => gd f s && decide (ofM f s 0 = x)) (mkN f)) else -2)
  else -1
def leadsS (f : Nat → Int32) (g d : Int32) : Int32 := if (rng 6 g && rng 10 d) = true then ledM f g.toNatClampNeg d.toNatClampNeg else -1
def noteS (f : Nat → Int32) (x w : Int32) : Int32 := if rng (nN f) x = true then (if rng 4 w = true then noteM f x.toNatClampNeg w.toNatClampNeg else -2) else -1
def countS (f : Nat → Int32) (dm : Int32) (km : Nat) (w : Int32) : Int32 :=
  if w = 0 then f 76 else if w = 1 then nI (cnI (gd f) (mkN f)) else if w = 2 then f 90 else if w = 3 then f 77 else if w = 4 then f 78 else if w = 5 then f 79 else if w = 6 then f 80 else if w = 7 then f 81 else if w = 8 then f 82
  else if w = 9 then f 0 else if w = 10 then f 1 else if w = 11 then f 2 else if w = 12 then f 3 else if w = 13 then dm else if w = 14 then nI km else -2
def endedS (f : Nat → Int32) (x : Int32) : Int32 := if rng 7 x = true then f (83 + x.toNatClampNeg) else -2
def walkS (f : Nat → Int32) (g d nd w : Int32) : Int32 :=
  if (rng 6 g && rng 10 d) = true then
    (if (nd = 1 ∨ nd = 2) ∧ rng 2 w = true then (if w = 0 then (wlk f g.toNatClampNeg d.toNatClampNeg nd).1 else nI (wlk f g.toNatClampNeg d.toNatClampNeg nd).2) else -2)
  else -1
def hidesS (f : Nat → Int32) (x : Int32) : Int32 := if rng (mkN f) x = true then hidM f x.toNatClampNeg (mkN f) else -1
def needlessS (f : Nat → Int32) (x : Int32) : Int64 :=
  if rng 12 x = true then ndI (fun s => decide (ofM f s 0 = x) && (gd f s && decide (hidM f s (mkN f) = 0))) (mkN f) else -1
def longestS (f : Nat → Int32) : Int32 := lgI f (mkN f)
def unI (f g : Nat → Int32) (pl i : Nat) : Nat → Int32 := fun k => if k < i then f (407 * pl + k) else g k
theorem unI_0 (f g : Nat → Int32) (pl : Nat) : unI f g pl 0 = g := by funext k; simp [unI]
theorem unI_s {f g : Nat → Int32} {pl i : Nat} : up (unI f g pl i) i (f (407 * pl + i)) = unI f g pl (i + 1) := by
  funext k
  rw [up_e]
  unfold unI
  by_cases hk : k = i
  · subst hk; rw [if_pos rfl, if_pos (by omega)]
  · rw [if_neg hk]
    by_cases h2 : k < i
    · rw [if_pos h2, if_pos (by omega)]
    · rw [if_neg h2, if_neg (by omega)]
theorem up_back (f : Nat → Int32) (k : Nat) (v : Int32) : up (up f k v) k (f k) = f := by
  funext j
  rw [up_e, up_e]
  by_cases h : j = k
  · rw [if_pos h, h]
  · rw [if_neg h, if_neg h]
section GPC
variable {p : Program} {l : Launch} {e : Env} {R : Room} {s : State} {m : MethodId} {args : Array Value} {below : List Frame} {meth : Method} {c : Code} {D : DT} {A : Nat → Prop} {nL : Nat} {ro : Bool} {cs sl : Nat} {Q : State → Prop} {ws : va_W} {lv : List (Nat × Value)} {st : List Value} {pc : Nat}
theorem g_pc (pc' : Nat) (h : pc = pc') (kk : GG p l e R s m args below meth c D A nL ro cs sl Q ws pc' lv st) : GG p l e R s m args below meth c D A nL ro cs sl Q ws pc lv st := h ▸ kk
end GPC
theorem lt6 {q : Nat} (h : q < 2 ^ 31) : (-6 : Int32) < nI q := by
  rw [Int32.lt_iff_toInt_lt, nI_toInt h]
  have : (-6 : Int32).toInt = -6 := rfl
  omega
theorem cnI_0 {P : Nat → Bool} : ∀ {n : Nat}, (∀ k, k < n → P k = false) → cnI P n = 0
  | 0, _ => rfl
  | n + 1, h => by rw [cnI, h n (by omega), cnI_0 (fun k hk => h k (by omega))]; rfl
theorem chI_le (f : Nat → Int32) : ∀ (k : Nat) (s : Int32) (n : Nat), chI f k s n ≤ n + k
  | 0, _, _ => Nat.le_refl _
  | k + 1, s, n => by
    rw [chI]
    split
    · omega
    · exact Nat.le_trans (chI_le f k _ _) (by omega)
theorem chN_le (f : Nat → Int32) (s : Int32) : chN f s ≤ 41 := by have := chI_le f 41 s 0; unfold chN; omega
