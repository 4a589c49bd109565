/-! ===== stamps made, doors, settings, the board wiped ===== -/
theorem NT_mk {f f' : Nat → Int32} {mk mk' n b b' : Nat} (hW : WF f mk n b) (hW' : WF f' mk' n b') (hmk : mk ≤ mk') (hlo : ∀ m, (4 ≤ m ∧ m < 76) ∨ (90 < m ∧ m < 127) → f' m = f m) (hs : ∀ s, s < mk → ∀ w, w < 7 → ofM f' s w = ofM f s w) (h : NT f) : NT f' := by
  have hst := hW.2.2.2.2.2.2.2.1
  have h40 : mk ≤ 40 := hW.2.1
  have hb : b ≤ 8 := hW.2.2.2.2.2.1
  have hnb : n ≤ b := hW.2.2.2.2.2.2.1
  obtain ⟨a1, a2⟩ := id h
  rw [nN_of hW] at a1 a2
  refine NT_gen (nN_of hW') (rw4 f) (fun t ht => ?_) (fun t ht => ?_) (fun s t hst ht => lst_nd a2 _ _ (by omega) (by omega) ht)
  · unfold rw4 noteM
    rw [hlo _ (by omega), hlo _ (by omega), hlo _ (by omega), hlo _ (by omega)]
  · obtain ⟨g, d, e, q, hg, hd, he, hq, e0, e1, e2, el, e3, eh, eg, er⟩ := lst_ok a1 ht
    rw [mkN_of hW] at hq
    exact ⟨g, d, e, q, hg, hd, he, by rw [mkN_of hW']; omega, e0, e1, e2, (show ledM f' g d = ledM f g d from hlo _ (by omega)).trans el, by rw [hs q hq 0 (by omega)]; exact e3, by rw [hs q hq 2 (by omega)]; exact eh, by rw [gd_c hst h40 (fun p hp => hlo _ (by omega)) hs (q + 1) q (by omega) hq]; exact eg, by rw [hs q hq 3 (by omega)]; exact er⟩
theorem mk_chg {f f' : Nat → Int32} {mk n b c pg gv hd rt : Nat} {ro fo : Int32} (hW : WF f mk n b) (hm : mk < 40) (hpg : pg < 12) (hgv : gv < 6) (hhd : hd < 6) (hrt : rt < 8) (hro : ro = -6 ∨ ∃ r : Nat, r < mk ∧ ro = nI r) (hfo : ∃ b : Bool, fo = b2i b) (hS : SI c f) (ef : f' = mkF f mk (nI gv) (nI hd) (nI pg) (nI rt) ro fo) :
    WF f' (mk + 1) n b ∧ SI c f' ∧ (ofM f' mk 0 = nI pg ∧ ofM f' mk 1 = nI gv ∧ ofM f' mk 2 = nI hd ∧ ofM f' mk 3 = nI rt ∧ ofM f' mk 4 = ro ∧ ofM f' mk 5 = fo ∧ ofM f' mk 6 = 0) ∧ (∀ s, s < mk → gd f' s = gd f s) ∧ (∀ m, m < 76 ∨ (76 < m ∧ m < 127) → f' m = f m) ∧ (∀ s, s < mk → ∀ w, w < 7 → ofM f' s w = ofM f s w) := by
  have hW' := hW.mk hm ⟨pg, hpg, rfl⟩ ⟨gv, hgv, rfl⟩ ⟨hd, hhd, rfl⟩ ⟨rt, hrt, rfl⟩ hro hfo
  have hst := hW.2.2.2.2.2.2.2.1
  have h40 : mk ≤ 40 := hW.2.1
  rw [← ef] at hW'
  have hlo : ∀ m, m < 76 ∨ (76 < m ∧ m < 127) → f' m = f m := fun m hm => by rw [ef]; exact mkF_o (by omega) (by omega)
  have hs : ∀ s, s < mk → ∀ w, w < 7 → ofM f' s w = ofM f s w := fun s hs w hw => by rw [ef]; exact mkF_o (by omega) (by omega)
  refine ⟨hW', ⟨NT_mk hW hW' (by omega) (fun m hm => hlo m (by omega)) hs hS.1, CT_c (fun m hm => hlo m (by omega)) hS.2⟩, ?_, fun s h => gd_c hst h40 (fun p hp => hlo _ (by omega)) hs (s + 1) s (by omega) h, hlo, hs⟩
  rw [ef]
  exact mkF_w
theorem rt_ok : ∀ r, r < 8 → 1 ≤ r → rtOK (nI r) = true := by decide +kernel
theorem stamp_4 {f : Nat → Int32} {mk n b gv hd pg rt : Nat} (hW : WF f mk n b) (hm : mk = 40) (hgv : gv < 6) (hhd : hd < 6) (hpg : pg < 12) (hrt : 1 ≤ rt ∧ rt ≤ 7) : stampS f (nI gv) (nI hd) (nI pg) (nI rt) = (-4, f) := by
  unfold stampS
  rw [rng_nI' hgv (by omega), rng_nI' hhd (by omega), rng_nI' hpg (by omega), if_pos (by decide), if_pos (rt_ok rt (by omega) hrt.1), mkN_of hW, if_pos hm]
theorem stamp_5 {f : Nat → Int32} {mk n b gv hd pg rt : Nat} (hW : WF f mk n b) (hm : mk < 40) (hgv : gv < 6) (hhd : hd < 6) (hpg : pg < 12) (hrt : 1 ≤ rt ∧ rt ≤ 7) (ho : ¬ f (4 + pg) = nI gv) : stampS f (nI gv) (nI hd) (nI pg) (nI rt) = (-5, f) := by
  unfold stampS
  rw [rng_nI' hgv (by omega), rng_nI' hhd (by omega), rng_nI' hpg (by omega), if_pos (by decide), if_pos (rt_ok rt (by omega) hrt.1), mkN_of hW, if_neg (by omega), nI_clamp (by omega), if_neg ho]
theorem stamp_m {f : Nat → Int32} {mk n b gv hd pg rt : Nat} (hW : WF f mk n b) (hm : mk < 40) (hgv : gv < 6) (hhd : hd < 6) (hpg : pg < 12) (hrt : 1 ≤ rt ∧ rt ≤ 7) (ho : f (4 + pg) = nI gv) : stampS f (nI gv) (nI hd) (nI pg) (nI rt) = (nI mk, mkF f mk (nI gv) (nI hd) (nI pg) (nI rt) (-6) 0) := by
  unfold stampS
  rw [rng_nI' hgv (by omega), rng_nI' hhd (by omega), rng_nI' hpg (by omega), if_pos (by decide), if_pos (rt_ok rt (by omega) hrt.1), mkN_of hW, if_neg (by omega), nI_clamp (by omega), if_pos ho]
theorem stamp_chg {f f' : Nat → Int32} {mk n b c gv hd pg rt : Nat} (hW : WF f mk n b) (hS : SI c f) (hm : mk < 40) (hgv : gv < 6) (hhd : hd < 6) (hpg : pg < 12) (hrt : 1 ≤ rt ∧ rt ≤ 7) (ho : f (4 + pg) = nI gv) (ef : f' = (stampS f (nI gv) (nI hd) (nI pg) (nI rt)).2) :
    (stampS f (nI gv) (nI hd) (nI pg) (nI rt)).1 = nI mk ∧ WF f' (mk + 1) n b ∧ SI c f' ∧ (ofM f' mk 0 = nI pg ∧ ofM f' mk 1 = nI gv ∧ ofM f' mk 2 = nI hd ∧ ofM f' mk 3 = nI rt ∧ ofM f' mk 4 = -6 ∧ ofM f' mk 5 = 0 ∧ ofM f' mk 6 = 0) ∧ gd f' mk = true := by
  have hr := stamp_m hW hm hgv hhd hpg hrt ho
  rw [hr] at ef
  obtain ⟨hW', hS', hk, -, hlo, -⟩ := mk_chg hW hm hpg hgv hhd (by omega) (Or.inl rfl) ⟨false, rfl⟩ hS ef
  refine ⟨by rw [hr], hW', hS', hk, ?_⟩
  obtain ⟨e0, e1, e2, e3, e4, e5, e6⟩ := hk
  rw [gdS hW'.2.2.2.2.2.2.2.1 (by omega : mk < mk + 1) hW'.2.1, e5, e6, e4]
  unfold basedM
  rw [e4, e0, e1, nI_clamp (by omega), hlo _ (by omega), ho]
  simp
  decide
theorem pass_1 {f : Nat → Int32} {x hd rt : Int32} (h : mkN f = 0) (hx : x = 0) : passS f x hd rt = (-1, f) := by
  unfold passS
  rw [h, hx, show rng 0 0 = false from rfl, Bool.false_and, if_neg Bool.false_ne_true]
theorem pass_4 {f : Nat → Int32} {mk n b t hd rt : Nat} (hW : WF f mk n b) (hm : mk = 40) (ht : t < mk) (hhd : hd < 6) (hrt : 1 ≤ rt ∧ rt ≤ 7) : passS f (nI t) (nI hd) (nI rt) = (-4, f) := by
  unfold passS
  rw [mkN_of hW, rng_nI' ht (by omega), rng_nI' hhd (by omega), if_pos (by decide), if_pos (rt_ok rt (by omega) hrt.1), if_pos hm]
theorem pass_5 {f : Nat → Int32} {mk n b t hd rt r : Nat} (hW : WF f mk n b) (hm : mk < 40) (ht : t < mk) (hhd : hd < 6) (hrt : 1 ≤ rt ∧ rt ≤ 7) (er : ofM f t 3 = nI r) (hr : r < 8) (hno : gd f t = false ∨ r < 4 ∨ ¬ nI r &&& nI rt = nI rt) : passS f (nI t) (nI hd) (nI rt) = (-5, f) := by
  unfold passS
  rw [mkN_of hW, rng_nI' ht (by omega), rng_nI' hhd (by omega), if_pos (by decide), if_pos (rt_ok rt (by omega) hrt.1), if_neg (by omega), nI_clamp (by omega), er, if_neg]
  intro z
  obtain ⟨z1, z2⟩ := Bool.and_eq_true_iff.mp z
  obtain ⟨z2, z3⟩ := Bool.and_eq_true_iff.mp z2
  rcases hno with k | k | k
  · rw [k] at z1; exact Bool.false_ne_true z1
  · have := (rt_ge r hr).mpr (of_decide_eq_true z2)
    have := (nI_leI (a := 4) (b := r) (by omega) (by omega)).mp this
    omega
  · exact k (of_decide_eq_true z3)
theorem pass_chg {f f' : Nat → Int32} {mk n b c t hd rt r : Nat} (hW : WF f mk n b) (hS : SI c f) (hm : mk < 40) (ht : t < mk) (hhd : hd < 6) (hrt : 1 ≤ rt ∧ rt ≤ 7) (er : ofM f t 3 = nI r) (hr : r < 8) (hg : gd f t = true) (h4 : 4 ≤ r) (hs : nI r &&& nI rt = nI rt) (ef : f' = (passS f (nI t) (nI hd) (nI rt)).2) :
    (passS f (nI t) (nI hd) (nI rt)).1 = nI mk ∧ WF f' (mk + 1) n b ∧ SI c f' ∧ (ofM f' mk 0 = ofM f' t 0 ∧ ofM f' mk 1 = ofM f' t 2 ∧ ofM f' mk 2 = nI hd ∧ ofM f' mk 3 = nI rt ∧ ofM f' mk 4 = nI t ∧ ofM f' mk 5 = 0 ∧ ofM f' mk 6 = 0) ∧ gd f' mk = true := by
  obtain ⟨⟨pg, hpg, epg⟩, -, ⟨ho, hho, eho⟩, -, -, -, -⟩ := hW.2.2.2.2.2.2.2.1 t ht
  have h40 : mk ≤ 40 := hW.2.1
  have hr4 : ¬ nI r &&& 4 = 0 := (rt_ge r hr).mp ((nI_leI (a := 4) (b := r) (by omega) (by omega)).mpr h4)
  have hres : passS f (nI t) (nI hd) (nI rt) = (nI mk, mkF f mk (nI ho) (nI hd) (nI pg) (nI rt) (nI t) 0) := by
    unfold passS
    rw [mkN_of hW, rng_nI' ht (by omega), rng_nI' hhd (by omega), if_pos (by decide), if_pos (rt_ok rt (by omega) hrt.1), if_neg (by omega), nI_clamp (by omega), er, hg, decide_eq_true hr4, decide_eq_true hs, if_pos (by decide), epg, eho]
  rw [hres] at ef
  obtain ⟨hW', hS', hk, hgd, hlo, hso⟩ := mk_chg hW hm hpg hho hhd (by omega) (Or.inr ⟨t, ht, rfl⟩) ⟨false, rfl⟩ hS ef
  obtain ⟨e0, e1, e2, e3, e4, e5, e6⟩ := hk
  have t0 := (hso t ht 0 (by omega)).trans epg
  have t2 := (hso t ht 2 (by omega)).trans eho
  have t3 := (hso t ht 3 (by omega)).trans er
  refine ⟨by rw [hres], hW', hS', ⟨e0.trans t0.symm, e1.trans t2.symm, e2, e3, e4, e5, e6⟩, ?_⟩
  rw [gdS hW'.2.2.2.2.2.2.2.1 (by omega : mk < mk + 1) hW'.2.1, e5, e6, e4, nI_clamp (by omega), hgd t ht, hg]
  unfold basedM
  rw [if_neg (by rw [e4]; exact nI_pos (by omega)), rtM_n e4 (by omega), e0, e1, e3, t0, t2, t3, decide_eq_true hr4, decide_eq_true hs]
  simp
  decide
theorem forge_4 {f : Nat → Int32} {mk n b gv hd pg rt : Nat} {ro : Int32} (hW : WF f mk n b) (hm : mk = 40) (hgv : gv < 6) (hhd : hd < 6) (hpg : pg < 12) (hrt : 1 ≤ rt ∧ rt ≤ 7) (hro : ro = -6 ∨ ∃ r : Nat, r < mk ∧ ro = nI r) : forgeS f (nI gv) (nI hd) (nI pg) (nI rt) ro = (-4, f) := by
  have hx : (decide (ro = -6) || rng mk ro) = true := by
    rcases hro with z | ⟨r, hr, z⟩
    · rw [decide_eq_true z]; rfl
    · rw [z, rng_nI' hr (by omega), Bool.or_true]
  unfold forgeS
  rw [mkN_of hW, rng_nI' hgv (by omega), rng_nI' hhd (by omega), rng_nI' hpg (by omega), hx, if_pos (by decide), if_pos (rt_ok rt (by omega) hrt.1), if_pos hm]
theorem forge_chg {f f' : Nat → Int32} {mk n b c gv hd pg rt : Nat} {ro : Int32} (hW : WF f mk n b) (hS : SI c f) (hm : mk < 40) (hgv : gv < 6) (hhd : hd < 6) (hpg : pg < 12) (hrt : 1 ≤ rt ∧ rt ≤ 7) (hro : ro = -6 ∨ ∃ r : Nat, r < mk ∧ ro = nI r) (ef : f' = (forgeS f (nI gv) (nI hd) (nI pg) (nI rt) ro).2) :
    (forgeS f (nI gv) (nI hd) (nI pg) (nI rt) ro).1 = nI mk ∧ WF f' (mk + 1) n b ∧ SI c f' ∧ (ofM f' mk 0 = nI pg ∧ ofM f' mk 1 = nI gv ∧ ofM f' mk 2 = nI hd ∧ ofM f' mk 3 = nI rt ∧ ofM f' mk 4 = ro ∧ ofM f' mk 5 = 1 ∧ ofM f' mk 6 = 0) ∧ gd f' mk = false := by
  have h40 : mk ≤ 40 := hW.2.1
  have hx : (decide (ro = -6) || rng mk ro) = true := by
    rcases hro with z | ⟨r, hr, z⟩
    · rw [decide_eq_true z]; rfl
    · rw [z, rng_nI' hr (by omega), Bool.or_true]
  have hres : forgeS f (nI gv) (nI hd) (nI pg) (nI rt) ro = (nI mk, mkF f mk (nI gv) (nI hd) (nI pg) (nI rt) ro 1) := by
    unfold forgeS
    rw [mkN_of hW, rng_nI' hgv (by omega), rng_nI' hhd (by omega), rng_nI' hpg (by omega), hx, if_pos (by decide), if_pos (rt_ok rt (by omega) hrt.1), if_neg (by omega)]
  rw [hres] at ef
  obtain ⟨hW', hS', hk, -, hlo, -⟩ := mk_chg hW hm hpg hgv hhd (by omega) hro ⟨true, rfl⟩ hS ef
  refine ⟨by rw [hres], hW', hS', hk, ?_⟩
  obtain ⟨e0, e1, e2, e3, e4, e5, e6⟩ := hk
  rw [gdS hW'.2.2.2.2.2.2.2.1 (by omega : mk < mk + 1) hW'.2.1, e5, decide_eq_false (by decide), Bool.false_and]
theorem take_1 {f : Nat → Int32} {x : Int32} (h : mkN f = 0) (hx : x = 0) : takeS f x = (-1, f) := by
  unfold takeS
  rw [h, hx, show rng 0 0 = false from rfl, if_neg Bool.false_ne_true]
theorem take_5 {f : Nat → Int32} {mk n b t : Nat} (hW : WF f mk n b) (ht : t < mk) (h6 : ofM f t 6 = 1) : takeS f (nI t) = (-5, f) := by
  have h40 : mk ≤ 40 := hW.2.1
  unfold takeS
  rw [mkN_of hW, if_pos (rng_nI' ht (by omega)), nI_clamp (by omega), if_pos h6]
theorem door_chg {f f' : Nat → Int32} {mk n b c g d z : Nat} {x : Int32} (hW : WF f mk n b) (hS : SI c f) (hg : g < 6) (hd : d < 10) (hx : x = -6 ∨ ∃ t : Nat, t < mk ∧ x = nI t) (hz : (ledM f g d = x ∧ z = 0) ∨ (¬ ledM f g d = x ∧ z = cnI (ofDoor f (nI g) (nI d)) n)) (ef : f' = (doorS f (nI g) (nI d) x).2) :
    (doorS f (nI g) (nI d) x).1 = nI z ∧ WF f' mk (n - z) b ∧ SI c f' ∧ ledM f' g d = x ∧ f' 81 = f 81 + nI z ∧ (z = 0 ∨ ∀ k, k < n - z → ¬ (noteM f' k 0 = nI g ∧ noteM f' k 1 = nI d)) ∧ z ≤ n := by
  have hb : b ≤ 8 := hW.2.2.2.2.2.1
  have hnb : n ≤ b := hW.2.2.2.2.2.2.1
  have h40 : mk ≤ 40 := hW.2.1
  have hst := hW.2.2.2.2.2.2.2.1
  have eN := nN_of hW
  have hc : ((rng 6 (nI g) && rng 10 (nI d)) && (decide (x = -6) || rng (mkN f) x)) = true := by
    rw [rng_nI' hg (by omega), rng_nI' hd (by omega), mkN_of hW]
    rcases hx with y | ⟨t, ht, y⟩
    · rw [decide_eq_true y]; rfl
    · rw [y, rng_nI' ht (by omega), Bool.or_true]; rfl
  rcases hz with ⟨h1, h2⟩ | ⟨h1, h2⟩
  · have hres : doorS f (nI g) (nI d) x = (0, f) := by
      unfold doorS
      rw [if_pos hc, nI_clamp (by omega), nI_clamp (by omega), if_pos h1]
    rw [hres] at ef ⊢
    replace ef : f' = f := ef
    subst h2
    rw [ef]
    exact ⟨rfl, hW, hS, h1, (Int32.add_zero _).symm, Or.inl rfl, Nat.zero_le _⟩
  · have hno0 : ∀ k, k < n → ∀ w, w < 4 → noteM (up f (16 + 10 * g + d) x) k w = noteM f k w := fun k hk w hw => up_n _ _ (by omega)
    have hP : ofDoor (up f (16 + 10 * g + d) x) (nI g) (nI d) = ofDoor f (nI g) (nI d) := by
      funext k
      unfold ofDoor noteM
      rw [up_n _ _ (by omega), up_n _ _ (by omega)]
    have hres : doorS f (nI g) (nI d) x = (nI z, wkF (ofDoor f (nI g) (nI d)) (up f (16 + 10 * g + d) x) n) := by
      unfold doorS
      rw [if_pos hc, nI_clamp (by omega), nI_clamp (by omega), if_neg h1, eN, hP, wipe_n, h2]
    rw [hres] at ef ⊢
    replace ef : f' = wkF (ofDoor f (nI g) (nI d)) (up f (16 + 10 * g + d) x) n := ef
    have hW1 : WF (up f (16 + 10 * g + d) x) mk n b := by
      have := hW.door (k := 10 * g + d) (v := x) (by omega) hx
      rw [show 16 + (10 * g + d) = 16 + 10 * g + d from by omega] at this
      exact this
    have hW2 := wk_WF (P := ofDoor f (nI g) (nI d)) hW1
    rw [← ef, ← h2] at hW2
    have hzn : z ≤ n := by rw [h2]; exact cnI_le _ n
    have hlo : ∀ m, m < 81 ∨ (81 < m ∧ m < 90) ∨ 127 ≤ m → f' m = up f (16 + 10 * g + d) x m := fun m hm => by rw [ef]; exact wk_lo (by omega) hm
    have hag : ∀ m, (m < 81 ∨ (81 < m ∧ m < 90) ∨ 127 ≤ m) → m ≠ 16 + 10 * g + d → f' m = f m := fun m hm hne => (hlo m hm).trans (up_n _ _ hne)
    have hl : ntl f' (n - z) = (kpL (ofDoor f (nI g) (nI d)) n).map (rw4 f) := by
      rw [ef, h2]
      exact ntl_wk hno0
    have hlen := kpL_len (ofDoor f (nI g) (nI d)) n
    refine ⟨rfl, hW2, ⟨?_, CT_c (fun m hm => hag m (by omega) (by omega)) hS.2⟩, ?_, ?_, Or.inr (fun k hk => ?_), hzn⟩
    · refine NT_sub eN (kpL_sub n) hS.1 (by rw [nN_of hW2]; exact hl) (fun k hk hkn hok => ?_)
      have hpk := kpL_no n k hk
      obtain ⟨g', d', e, t, hg', hd', he, ht, e0, e1, e2, el, e3, eh, eg, er⟩ := hok
      rw [mkN_of hW] at ht
      have hne : 16 + (10 * g' + d') ≠ 16 + 10 * g + d := by
        intro y
        have h3 : g' = g ∧ d' = d := by omega
        rw [h3.1] at e0
        rw [h3.2] at e1
        unfold ofDoor at hpk
        rw [decide_eq_true (p := noteM f k 0 = nI g) e0, decide_eq_true (p := noteM f k 1 = nI d) e1] at hpk
        exact absurd hpk (by decide)
      have hs : ∀ w, w < 7 → ofM f' t w = ofM f t w := fun w hw => hag _ (by omega) (by omega)
      exact ⟨g', d', e, t, hg', hd', he, by rw [mkN_of hW2]; exact ht, e0, e1, e2, (show ledM f' g' d' = ledM f g' d' from hag _ (by omega) hne).trans el, by rw [hs 0 (by omega)]; exact e3, by rw [hs 2 (by omega)]; exact eh, by rw [gd_cx hst h40 (fun m hm => hag m (by omega) (by omega)) ht]; exact eg, by rw [hs 3 (by omega)]; exact er⟩
    · have el : ledM f' g d = up f (16 + 10 * g + d) x (16 + (10 * g + d)) := hlo _ (by omega)
      rw [el, show 16 + (10 * g + d) = 16 + 10 * g + d from by omega]
      exact up_s _ _ _
    · rw [ef, wk_81 (by omega), up_n _ _ (by omega), h2]
    · intro y
      have h4 : (ntl f' (n - z))[k]? = some (rw4 f' k) := by
        unfold ntl
        rw [List.getElem?_map, List.getElem?_range hk]
        rfl
      rw [hl, List.getElem?_map] at h4
      obtain ⟨k', hk', ek'⟩ := Option.map_eq_some_iff.mp h4
      have hpk := kpL_no n k' (List.mem_of_getElem? hk')
      have h0 : noteM f k' 0 = nI g := (congrArg Prod.fst ek').trans y.1
      have h3 : noteM f k' 1 = nI d := (congrArg (fun x => x.2.1) ek').trans y.2
      unfold ofDoor at hpk
      rw [decide_eq_true h0, decide_eq_true h3] at hpk
      exact absurd hpk (by decide)
theorem set_in : ∀ x, x < 4 → ∀ v, v < 9 → ((x = 0 ∧ 1 ≤ v) ∨ (x = 2 ∧ v ≤ 2) ∨ ((x = 1 ∨ x = 3) ∧ v ≤ 1)) → (rng 4 (nI x) && decide ((if nI x = 0 then (1 : Int) else 0) ≤ (nI v).toInt ∧ (nI v).toInt ≤ (hiS (nI x)).toInt)) = true := by decide +kernel
theorem set_chg {f f' : Nat → Int32} {mk n b c x v b2 : Nat} (hW : WF f mk n b) (hS : SI c f) (hx : x < 4) (hv : (x = 0 ∧ 1 ≤ v ∧ v ≤ 8) ∨ (x = 2 ∧ v ≤ 2) ∨ ((x = 1 ∨ x = 3) ∧ v ≤ 1)) (hb2 : (x = 0 ∧ b2 = v) ∨ (¬ x = 0 ∧ b2 = b)) (ef : f' = (setS f (nI x) (nI v)).2) :
    (setS f (nI x) (nI v)).1 = f x ∧ WF f' mk (min n b2) b2 ∧ SI c f' ∧ f' x = nI v ∧ f' 82 = f 82 + nI (n - b2) ∧ f' 81 = f 81 ∧ (∀ m, m < 82 → m ≠ x → f' m = f m) := by
  have hb : b ≤ 8 := hW.2.2.2.2.2.1
  have hb1 : 1 ≤ b := hW.2.2.2.2.1
  have hnb : n ≤ b := hW.2.2.2.2.2.2.1
  have h40 : mk ≤ 40 := hW.2.1
  have h0 : f 0 = nI b := hW.2.2.2.1
  have hn8 : f 90 = nI n := hW.2.2.1
  have hbN : bN (up f x (nI v)) = b2 := by
    unfold bN
    rcases hb2 with ⟨h1, h2⟩ | ⟨h1, h2⟩
    · rw [h1, up_s, h2, nI_clamp (by omega)]
    · rw [up_n _ _ (by omega), h0, nI_clamp (by omega), h2]
  have hres : setS f (nI x) (nI v) = (f x, drI n (up f x (nI v)) n b2) := by
    unfold setS
    rw [if_pos (set_in x hx v (by omega) (by omega)), nI_clamp (by omega), nN_of hW, hbN]
  obtain ⟨mk', n', b', hW'⟩ := set_ok (x := nI x) (v := nI v) ⟨mk, n, b, hW⟩
  rw [← ef] at hW'
  rw [hres] at ef ⊢
  replace ef : f' = drI n (up f x (nI v)) n b2 := ef
  obtain ⟨d1, d2, d3, d4⟩ := drI_o b2 n (up f x (nI v)) n (Nat.le_refl _) (by omega) (by rw [up_n _ _ (by omega)]; exact hn8)
  rw [← ef] at d1 d2 d3 d4
  have hag : ∀ m, m < 82 ∨ (82 < m ∧ m < 90) ∨ 127 ≤ m → m ≠ x → f' m = f m := fun m hm hne => (d1 m hm).trans (up_n _ _ hne)
  have e0 : f' 0 = nI b2 := by
    rcases hb2 with ⟨h1, h2⟩ | ⟨h1, h2⟩
    · rw [d1 0 (by omega), h1, up_s, h2]
    · rw [hag 0 (by omega) (by omega), h0, h2]
  have em : mk' = mk := by
    have y := hW'.1.symm.trans ((hag 76 (by omega) (by omega)).trans hW.1)
    have h40' : mk' ≤ 40 := hW'.2.1
    exact nj_eq (by omega) (by omega) y
  have eb : b' = b2 := by
    have y := hW'.2.2.2.1.symm.trans e0
    have hb' : b' ≤ 8 := hW'.2.2.2.2.2.1
    exact nj_eq (by omega) (by omega) y
  have en : n' = min n b2 := by
    have y := hW'.2.2.1.symm.trans d2
    have hn' : n' ≤ b' := hW'.2.2.2.2.2.2.1
    have hb' : b' ≤ 8 := hW'.2.2.2.2.2.1
    exact nj_eq (by omega) (by omega) y
  rw [em, en, eb] at hW'
  refine ⟨rfl, hW', ⟨?_, CT_c (fun m hm => hag m (by omega) (by omega)) hS.2⟩, (d1 x (by omega)).trans (up_s _ _ _), d3.trans (by rw [up_n _ _ (by omega)]), hag 81 (by omega) (by omega), fun m h1 h2 => hag m (by omega) h2⟩
  obtain ⟨a1, a2⟩ := id hS.1
  rw [nN_of hW] at a1 a2
  refine NT_gen (nN_of hW') (fun t => rw4 f (t + (n - b2))) (fun t ht => ?_) (fun t ht => okR_c hW.2.2.2.2.2.2.2.1 h40 (mkN_of hW) (mkN_of hW') (fun m hm => hag m (by omega) (by omega)) (lst_ok a1 (by omega))) (fun s t hst ht => lst_nd a2 _ _ (by omega) (by omega) (by omega))
  have hk : ∀ w, w < 4 → noteM f' t w = noteM f (t + (n - b2)) w := fun w hw => (d4 t w hw (by omega)).trans (up_n _ _ (by omega))
  unfold rw4
  rw [hk 0 (by omega), hk 1 (by omega), hk 2 (by omega), hk 3 (by omega)]
theorem flush_chg {f f' : Nat → Int32} {mk n b c : Nat} (hW : WF f mk n b) (hS : SI c f) (ef : f' = (flushS f).2) : (flushS f).1 = nI n ∧ WF f' mk 0 b ∧ SI c f' ∧ f' 81 = f 81 + nI n := by
  have hW' := wp_ok hW
  have hn8 : f 90 = nI n := hW.2.2.1
  replace ef : f' = wpF f := ef
  rw [← ef] at hW'
  refine ⟨hn8, hW', ⟨NT_gen (nN_of hW') (rw4 f') (fun t ht => absurd ht (Nat.not_lt_zero t)) (fun t ht => absurd ht (Nat.not_lt_zero t)) (fun s t _ ht => absurd ht (Nat.not_lt_zero t)), CT_c (fun m hm => by rw [ef]; unfold wpF; rw [up_n _ _ (by omega), up_n _ _ (by omega)]) hS.2⟩, ?_⟩
  rw [ef]
  unfold wpF
  rw [up_s, hn8]
theorem st_82 {x : Int32} {n b k : Nat} (h : n - b + k = n) : x + nI (n - b) = (x + nI n) - nI k := by
  rw [show nI n = nI (n - b) + nI k from by rw [nI_add, h], ← Int32.add_assoc, Int32.add_sub_cancel]
theorem LI_le {c c' : Nat} {f : Nat → Int32} {na : Nat → Nat → Int32} {td : Nat → Int32} {L kp : Nat} {pq : Nat → Option HH} (h : c ≤ c') (hL : LI c f na td L kp pq) : LI c' f na td L kp pq := by
  obtain ⟨h1, h2, h3, h4, h5⟩ := hL
  exact ⟨h1, h2, h3, SI_le h h4, h5⟩
