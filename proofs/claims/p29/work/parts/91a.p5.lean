/-! ===== the history; what a change leaves of the object ===== -/
def HL (kp : Nat) (pq : Nat → Option HH) (l : List (Nat → Int32)) : Prop := l.length = kp ∧ ∀ i, i < kp → ∃ h : HH, pq (kp - 1 - i) = some h ∧ l[i]? = some h.2.1 ∧ FB h.2.1 ∧ NRx h.2.1 h.2.2
theorem HL.hq {kp : Nat} {pq : Nat → Option HH} {l : List (Nat → Int32)} (h : HL kp pq l) : HQ pq kp := fun k hk => by
  obtain ⟨g, h1, -⟩ := h.2 (kp - 1 - k) (by omega)
  rw [show kp - 1 - (kp - 1 - k) = k from by omega] at h1
  exact ⟨g, h1⟩
theorem HL.fb {kp : Nat} {pq : Nat → Option HH} {l : List (Nat → Int32)} (h : HL kp pq l) : ∀ k, k < kp → ∀ g : HH, pq k = some g → FB g.2.1 := fun k hk g hg => by
  obtain ⟨g', h1, -, h3, -⟩ := h.2 (kp - 1 - k) (by omega)
  rw [show kp - 1 - (kp - 1 - k) = k from by omega, hg] at h1
  cases h1
  exact h3
theorem HL.err {kp : Nat} {pq : Nat → Option HH} {l : List (Nat → Int32)} {x : Option HH} (h : HL kp pq l) : HL kp (up pq kp x) l :=
  ⟨h.1, fun i hi => by rw [up_n _ _ (by omega)]; exact h.2 i hi⟩
theorem HL.push {kp : Nat} {pq : Nat → Option HH} {l : List (Nat → Int32)} {b : Nat → Nat} {f : Nat → Int32} {na : Nat → Nat → Int32} (h : HL kp pq l) (hk : kp ≤ 6) (hF : FB f) (hN : NRx f na) : HL (kN kp) (kQ kp (up pq kp (some (b, f, na)))) ((f :: l).take 6) := by
  obtain ⟨hl, h2⟩ := h
  unfold kN kQ
  by_cases h6 : kp < 6
  · rw [if_pos h6, if_pos h6, List.take_of_length_le (by simp; omega)]
    refine ⟨by simp [hl], fun i hi => ?_⟩
    cases i with
    | zero => exact ⟨(b, f, na), by rw [show kp + 1 - 1 - 0 = kp from by omega, up_s], rfl, hF, hN⟩
    | succ i =>
      obtain ⟨g, g1, g2, g3, g4⟩ := h2 i (by omega)
      exact ⟨g, by rw [show kp + 1 - 1 - (i + 1) = kp - 1 - i from by omega, up_n _ _ (by omega)]; exact g1, g2, g3, g4⟩
  · rw [if_neg h6, if_neg h6]
    have e6 : kp = 6 := by omega
    subst e6
    refine ⟨by simp [hl], fun i hi => ?_⟩
    have hr : rotQ (up pq 6 (some (b, f, na))) (6 - 1 - i) = up pq 6 (some (b, f, na)) (6 - i) := by
      unfold rotQ
      rw [if_pos (by omega), show 6 - 1 - i + 1 = 6 - i from by omega]
    rw [hr, List.getElem?_take_of_lt hi]
    cases i with
    | zero => exact ⟨(b, f, na), up_s _ _ _, rfl, hF, hN⟩
    | succ i =>
      obtain ⟨g, g1, g2, g3, g4⟩ := h2 i (by omega)
      exact ⟨g, by rw [up_n _ _ (by omega), show 6 - (i + 1) = 6 - 1 - i from by omega]; exact g1, g2, g3, g4⟩
theorem HL.pop {kp : Nat} {pq : Nat → Option HH} {l : List (Nat → Int32)} {g : Nat → Int32} (h : HL kp pq (g :: l)) : 0 < kp ∧ (∀ b g' nb, pq (kp - 1) = some (b, g', nb) → g' = g ∧ NRx g' nb ∧ FB g') ∧ HL (kp - 1) pq l := by
  obtain ⟨hl, h2⟩ := h
  have hk : kp = l.length + 1 := by rw [← hl]; rfl
  refine ⟨by omega, fun b g' nb e => ?_, by omega, fun i hi => ?_⟩
  · obtain ⟨q, q1, q2, q3, q4⟩ := h2 0 (by omega)
    rw [show kp - 1 - 0 = kp - 1 from by omega, e] at q1
    cases q1
    exact ⟨(Option.some.inj q2).symm, q4, q3⟩
  · obtain ⟨q, q1, q2, q3, q4⟩ := h2 (i + 1) (by omega)
    exact ⟨q, by rw [show kp - 1 - 1 - i = kp - 1 - (i + 1) from by omega]; exact q1, q2, q3, q4⟩
/-- the rows kept behind a change with the answer x -/
def hNew (x : Int32) (f : Nat → Int32) (l : List (Nat → Int32)) : List (Nat → Int32) := if 0 ≤ x then (f :: l).take 6 else l
theorem ch_out {D : DT} {a : Nat → Nat} {f : Nat → Int32} {na : Nat → Nat → Int32} {w td vl : Nat → Int32} {L pt fl : Nat} {kd : Int32} {kp : Nat} {pq ps : Nat → Option HH} {r : Int32 × (Nat → Int32)} {v : Option Value} {w9 : va_W} {l : List (Nat → Int32)}
    (h : chP D a f na w td vl L pt fl kd kp pq ps r v w9) (hk : kp ≤ 6) (hl : HL kp pq l) (hF : FB f) (hN : NRx f na) :
    v = some (.int r.1) ∧ ∃ (fx : Nat → Int32) (nb : Nat → Nat → Int32) (w' : Nat → Int32) (kp2 : Nat) (pq2 : Nat → Option HH), fx = r.2 ∧ NRx fx nb ∧ AD w9 (wC D a f na w td vl L pt fl kd kp pq ps) ∧ kp2 ≤ 6 ∧ HL kp2 pq2 (hNew r.1 f l) ∧ kp2 = kU r.1 kp ∧ w9 = wC D a fx nb w' td vl L pt fl kd kp2 pq2 ps := by
  obtain ⟨e, b9, nb, n', w', hAD, hN9, h909, ew⟩ := h
  refine ⟨e, r.2, nb, w', _, _, rfl, ⟨n', hN9, h909⟩, hAD, kU_le hk, ?_, rfl, ew⟩
  unfold kU kV hNew
  by_cases h0 : 0 ≤ r.1
  · rw [if_pos h0, if_pos h0, if_pos h0]
    exact hl.push hk hF hN
  · rw [if_neg h0, if_neg h0, if_neg h0]
    exact hl.err
/-- what the law's main loop keeps -/
def LI (c : Nat) (f : Nat → Int32) (na : Nat → Nat → Int32) (td : Nat → Int32) (L kp : Nat) (pq : Nat → Option HH) : Prop := WFx f ∧ NRx f na ∧ FB f ∧ SI c f ∧ L ≤ 80 ∧ (∀ k, k < L → ∃ ch : Nat, ch < 256 ∧ td k = nI ch) ∧ kp ≤ 6 ∧ ∃ l, HL kp pq l
def lwP (D : DT) (a : Nat → Nat) (ps : Nat → Option HH) (W0 : va_W) (c : Nat) : Option Value → va_W → Prop := fun v w9 => v = some (.int 1) ∧ ∃ (f : Nat → Int32) (na : Nat → Nat → Int32) (w td vl : Nat → Int32) (L pt fl : Nat) (kd : Int32) (kp : Nat) (pq : Nat → Option HH), LI c f na td L kp pq ∧ AD w9 W0 ∧ w9 = wC D a f na w td vl L pt fl kd kp pq ps
theorem CT_c {c : Nat} {f f' : Nat → Int32} (h : ∀ m, (78 ≤ m ∧ m < 80) ∨ (83 ≤ m ∧ m < 90) → f' m = f m) (hC : CT c f) : CT c f' := by
  obtain ⟨e, hh, h1, h2, h3, h4, h5⟩ := hC
  exact ⟨e, hh, fun r hr => by rw [h _ (by omega)]; exact h1 r hr, by rw [h 78 (by omega)]; exact h2, h3, by rw [h 79 (by omega)]; exact h4, h5⟩
theorem CT_le {c c' : Nat} {f : Nat → Int32} (h : c ≤ c') (hC : CT c f) : CT c' f := by
  obtain ⟨e, hh, h1, h2, h3, h4, h5⟩ := hC
  exact ⟨e, hh, h1, h2, by omega, h4, h5⟩
theorem SI_le {c c' : Nat} {f : Nat → Int32} (h : c ≤ c') (hS : SI c f) : SI c' f := ⟨hS.1, CT_le h hS.2⟩
/-- a change of a page's owner, a stamp taken back: which notes go (P) -/
def CHG (f : Nat → Int32) (mk n b : Nat) (P : Nat → Bool) (f' : Nat → Int32) (x : Int32) (same : Bool) : Prop :=
  WF f' mk (n - cnI P n) b ∧ (∀ g d, g < 6 → d < 10 → ledM f' g d = ledM f g d) ∧ f' 2 = f 2 ∧ f' 81 = f 81 + nI (cnI P n) ∧ (∀ k, k < n → P k = false → ∀ w, w < 4 → noteM f' (k - cnI P k) w = noteM f k w) ∧
  (∀ k, k < n → ∀ t, t < mk → ledBy f k = nI t → gd f t = true → P k = (!same && (if f 2 = 0 then true else if f 2 = 1 then decide (noteM f k 3 = x) else !gd f' t)))
theorem ledBy_of {f : Nat → Int32} {k g d : Nat} (e0 : noteM f k 0 = nI g) (e1 : noteM f k 1 = nI d) (hg : g < 6) (hd : d < 10) : ledBy f k = ledM f g d := by
  unfold ledBy
  rw [e0, e1, nI_clamp (by omega), nI_clamp (by omega)]
theorem chg_of {f f1 : Nat → Int32} {mk n b c : Nat} {x : Int32} (hW : WF f mk n b) (hW1 : WF f1 mk n b) (hS : SI c f) (hA : ∀ m, m < 4 ∨ (16 ≤ m ∧ m < 127) → f1 m = f m) (hO : ∀ s w, w < 6 → ofM f1 s w = ofM f s w)
    (hG : ∀ t, t < mk → ¬ ofM f t 0 = x → gd f t = true → gd f1 t = true) :
    CHG f mk n b (goM f f1 x) (wkF (goM f f1 x) f1 n) x false ∧ SI c (wkF (goM f f1 x) f1 n) := by
  have hb : b ≤ 8 := hW.2.2.2.2.2.1
  have hnb : n ≤ b := hW.2.2.2.2.2.2.1
  have h40 : mk ≤ 40 := hW.2.1
  have hst1 := hW1.2.2.2.2.2.2.2.1
  have eN := nN_of hW
  have eM := mkN_of hW
  have hW2 := wk_WF (P := goM f f1 x) hW1
  have eN2 := nN_of hW2
  have eM2 := mkN_of hW2
  have hno : ∀ k, k < n → ∀ w, w < 4 → noteM f1 k w = noteM f k w := fun k hk w hw => hA _ (by omega)
  have hled : ∀ g d, g < 6 → d < 10 → ledM (wkF (goM f f1 x) f1 n) g d = ledM f g d := fun g d hg hd => (wk_lo (by omega) (by omega)).trans (hA _ (by omega))
  have hgd : ∀ t, t < mk → gd (wkF (goM f f1 x) f1 n) t = gd f1 t := fun t ht => gd_cx hst1 h40 (fun m hm => wk_lo (by omega) (by omega)) ht
  have hP : ∀ k, k < n → ∀ t, t < mk → ledBy f k = nI t → gd f t = true → goM f f1 x k = (if f 2 = 0 then true else if f 2 = 1 then decide (noteM f k 3 = x) else !gd (wkF (goM f f1 x) f1 n) t) := by
    intro k hk t ht hl hg
    obtain ⟨⟨g, hg6, eg⟩, ⟨d, hd, ed⟩⟩ := hW.2.2.2.2.2.2.2.2.1 k hk
    have hl1 : ledBy f1 k = nI t := by
      rw [ledBy_of ((hno k hk 0 (by omega)).trans eg) ((hno k hk 1 (by omega)).trans ed) hg6 hd, ← hl, ledBy_of eg ed hg6 hd]
      exact hA _ (by omega)
    show (if f1 2 = 0 then true else if f1 2 = 1 then decide (noteM f1 k 3 = x) else decide (¬ ledBy f1 k < 0) && (decide (¬ b2i (gd f (ledBy f1 k).toNatClampNeg) = 0) && decide (b2i (gd f1 (ledBy f1 k).toNatClampNeg) = 0))) = _
    rw [hA 2 (by omega), hno k hk 3 (by omega), hl1, nI_clamp (by omega), hg, decide_eq_true (nI_pos (by omega)), Bool.true_and, hgd t ht]
    by_cases h0 : f 2 = 0
    · rw [if_pos h0, if_pos h0]
    · rw [if_neg h0, if_neg h0]
      by_cases h1 : f 2 = 1
      · rw [if_pos h1, if_pos h1]
      · rw [if_neg h1, if_neg h1, b2z]
        rfl
  refine ⟨⟨hW2, hled, (wk_lo (by omega) (by omega)).trans (hA _ (by omega)), (wk_81 (by omega)).trans (by rw [hA 81 (by omega)]), fun k hk hp w hw => (wk_note (kpL_at n k hk hp) w hw).trans (hno k hk w hw), fun k hk t ht hl hg => by rw [hP k hk t ht hl hg]; rfl⟩, ?_, ?_⟩
  · refine NT_sub eN (kpL_sub n) hS.1 (by rw [eN2]; exact ntl_wk hno) (fun k hk hkn hok => ?_)
    have hpk := kpL_no n k hk
    obtain ⟨g, d, e, t, hg, hd, he, ht, e0, e1, e2, el, e3, eh, eg, er⟩ := hok
    rw [eM] at ht
    have hoS : ∀ s w, s < mk → w < 6 → ofM (wkF (goM f f1 x) f1 n) s w = ofM f s w := fun s w hs hw => (show ofM (wkF (goM f f1 x) f1 n) s w = ofM f1 s w from wk_lo (by omega) (by omega)).trans (hO s w hw)
    refine ⟨g, d, e, t, hg, hd, he, by rw [eM2]; exact ht, e0, e1, e2, (hled g d hg hd).trans el, e3.trans (hoS t 0 ht (by omega)).symm, (hoS t 2 ht (by omega)).trans eh, ?_, by rw [hoS t 3 ht (by omega)]; exact er⟩
    have hlb : ledBy f k = nI t := (ledBy_of e0 e1 hg hd).trans el
    have hv := hP k hkn t ht hlb eg
    rw [hpk] at hv
    by_cases h0 : f 2 = 0
    · rw [if_pos h0] at hv; exact absurd hv Bool.false_ne_true
    · rw [if_neg h0] at hv
      by_cases h1 : f 2 = 1
      · rw [if_pos h1] at hv
        rw [hgd t ht]
        exact hG t ht (fun z => of_decide_eq_false hv.symm (e3.trans z)) eg
      · rw [if_neg h1] at hv
        cases hz : gd (wkF (goM f f1 x) f1 n) t with
        | true => rfl
        | false => rw [hz] at hv; exact absurd hv Bool.false_ne_true
  · exact CT_c (fun m hm => (wk_lo (by omega) (by omega)).trans (hA _ (by omega))) hS.2
theorem own_chg {f : Nat → Int32} {mk n b p c : Nat} {gu : Int32} (hW : WF f mk n b) (hp : p < 12) (hg : gu = -6 ∨ ∃ g : Nat, g < 6 ∧ gu = nI g) (hS : SI c f) :
    ∃ P, (ownS f (nI p) gu).1 = nI (cnI P n) ∧ CHG f mk n b P (ownS f (nI p) gu).2 (nI p) (decide (f (4 + p) = gu)) ∧ (ownS f (nI p) gu).2 (4 + p) = gu ∧ SI c (ownS f (nI p) gu).2 := by
  have hC : (rng 12 (nI p) && (decide (gu = -6) || rng 6 gu)) = true := by
    rw [rng_nI' hp (by omega), Bool.true_and]
    rcases hg with z | ⟨g, hg, z⟩
    · rw [decide_eq_true z]; rfl
    · rw [z, rng_nI' hg (by omega), Bool.or_true]
  have hb : b ≤ 8 := hW.2.2.2.2.2.1
  have hnb : n ≤ b := hW.2.2.2.2.2.2.1
  unfold ownS
  rw [if_pos hC, nI_clamp (by omega), nN_of hW]
  by_cases hs : f (4 + p) = gu
  · rw [if_pos hs]
    have h0 : ∀ k, cnI (fun _ => false) k = 0 := fun k => cnI_0 (fun _ _ => rfl)
    refine ⟨fun _ => false, by rw [h0]; rfl, ⟨by rw [h0, Nat.sub_zero]; exact hW, fun _ _ _ _ => rfl, rfl, by rw [h0]; exact (Int32.add_zero _).symm, fun k _ _ w _ => by rw [h0, Nat.sub_zero], fun k _ t _ _ _ => by rw [decide_eq_true hs]; rfl⟩, hs, hS⟩
  · rw [if_neg hs]
    have hst := hW.2.2.2.2.2.2.2.1
    obtain ⟨h1, h2⟩ := chg_of (x := nI p) hW (hW.own hp hg) hS (fun m hm => up_n _ _ (by omega)) (fun s w hw => up_n _ _ (by omega)) (fun t ht hx hg => gd_own hst hW.2.1 hp (t + 1) t (by omega) ht hx hg)
    refine ⟨_, wipe_n, by rw [decide_eq_false hs]; exact h1, ?_, h2⟩
    show wkF _ _ n (4 + p) = gu
    rw [wk_lo (by omega) (by omega), up_s]
theorem take_chg {f : Nat → Int32} {mk n b q c : Nat} {p : Nat} (hW : WF f mk n b) (hq : q < mk) (h6 : ¬ ofM f q 6 = 1) (ep : ofM f q 0 = nI p) (hS : SI c f) :
    ∃ P, (takeS f (nI q)).1 = nI (cnI P n) ∧ CHG f mk n b P (takeS f (nI q)).2 (nI p) false ∧ ofM (takeS f (nI q)).2 q 6 = 1 ∧ SI c (takeS f (nI q)).2 := by
  have hb : b ≤ 8 := hW.2.2.2.2.2.1
  have hnb : n ≤ b := hW.2.2.2.2.2.2.1
  have h40 : mk ≤ 40 := hW.2.1
  unfold takeS
  rw [mkN_of hW, if_pos (rng_nI' hq (by omega)), nI_clamp (by omega), if_neg h6, nN_of hW, ep]
  have hst := hW.2.2.2.2.2.2.2.1
  obtain ⟨h1, h2⟩ := chg_of (x := nI p) hW (hW.take hq) hS (fun m hm => up_n _ _ (by omega)) (fun s w hw => up_n _ _ (by omega)) (fun t ht hx hg => gd_take hst h40 hq (t + 1) t (by omega) ht (by rw [ep]; exact hx) hg)
  refine ⟨_, wipe_n, h1, ?_, h2⟩
  show wkF _ _ n (127 + 6 + 7 * q) = 1
  rw [wk_lo (by omega) (by omega), show 127 + 6 + 7 * q = 127 + 7 * q + 6 from by omega, up_s]
