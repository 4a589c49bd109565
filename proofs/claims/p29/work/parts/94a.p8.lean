theorem come_no {f : Nat → Int32} {mk n b g d e : Nat} (hW : WF f mk n b) (hno : cmW f (nI g) = true ∨ ∀ j, j < n → isNote f (nI g) (nI d) (nI e) j = false) : fndI (isNote (cmF f (nI g)) (nI g) (nI d) (nI e)) (if cmW f (nI g) = true then 0 else n) 0 = -6 := by
  refine fnd_none _ _ (fun j _ hj => ?_)
  rcases hno with z | z
  · rw [if_pos z] at hj; omega
  · rw [isN_cm hW]
    refine z j ?_
    split at hj <;> omega
theorem wr_lo {f : Nat → Int32} {r k m : Nat} (hr : r < 7) (h : m < 80 ∨ 90 ≤ m) : wrF f (nI r) k m = f m := wr_e rfl hr h
theorem come_B {f f' : Nat → Int32} {mk n b c g d e r i : Nat} (hW : WF f mk n b) (hS : SI c f) (hg : g < 6) (hd : d < 10) (he : e = 1 ∨ e = 2) (hno : cmW f (nI g) = true ∨ ∀ j, j < n → isNote f (nI g) (nI d) (nI e) j = false)
    (hr : (wlk f g d (nI e)).1 = nI r) (hi : (wlk f g d (nI e)).2 = i) (hr7 : r < 7) (h0 : 0 < r) (ef : f' = (comeS f (nI g) (nI d) (nI e)).2) :
    (comeS f (nI g) (nI d) (nI e)).1 = nI r ∧ WF f' mk (if cmW f (nI g) = true then 0 else n) b ∧ SI (c + 1) f' ∧ f' 77 = nI g ∧ f' 78 = f 78 + 1 ∧ f' 79 = f 79 ∧ f' 80 = f 80 + nI i ∧ f' 81 = f 81 + (if cmW f (nI g) = true then nI n else 0) ∧ f' 82 = f 82 ∧ f' (83 + r) = f (83 + r) + 1 := by
  obtain ⟨hW0, k77, k78, k81, kk⟩ := cm_facts (g := nI g) hW
  obtain ⟨a1, a2⟩ := cm_NT (g := nI g) hW hS.1
  have hst := hW.2.2.2.2.2.2.2.1
  have h40 : mk ≤ 40 := hW.2.1
  have hst0 := hW0.2.2.2.2.2.2.2.1
  have hwl : wlk (cmF f (nI g)) g d (nI e) = wlk f g d (nI e) := wlk_cx hst h40 hW.2.2.2.2.2.2.2.2.2.2.1 hg hd (fun m hm => kk m (by omega))
  have hres : comeS f (nI g) (nI d) (nI e) = (nI r, wrF (cmF f (nI g)) (nI r) i) := by
    rw [come_w hg hd he]
    unfold comeW
    rw [nN_of hW0, come_no hW hno, if_neg (by decide), hwl, hr, hi, if_neg (fun z => by have := (nI_eq (a := r) (b := 0) (by omega) (by omega)).mp z; omega)]
  rw [hres] at ef ⊢
  replace ef : f' = wrF (cmF f (nI g)) (nI r) i := ef
  generalize hn0 : (if cmW f (nI g) = true then 0 else n) = n0 at *
  have hnb : n0 ≤ b := hW0.2.2.2.2.2.2.1
  have hb : b ≤ 8 := hW0.2.2.2.2.2.1
  have hlo : ∀ m, m < 80 ∨ 90 ≤ m → f' m = cmF f (nI g) m := fun m hm => by rw [ef]; exact wr_lo hr7 hm
  have hW' : WF f' mk n0 b := by
    rw [ef]
    unfold wrF
    rw [nI_clamp (by omega)]
    exact ((hW0.w0.cnt _ (by omega) (by omega)).cnt _ (by omega) (by omega)).w hnb
  have x83 : f' (83 + r) = f (83 + r) + 1 := by
    rw [ef]
    unfold wrF
    rw [nI_clamp (by omega), up_s, kk _ (by omega)]
  have x80 : f' 80 = f 80 + nI i := by
    rw [ef]
    unfold wrF
    rw [nI_clamp (by omega), up_n _ _ (by omega), up_s, kk _ (by omega)]
  have xo : ∀ m, 81 ≤ m → m < 90 → m ≠ 83 + r → f' m = cmF f (nI g) m := fun m h1 h2 h3 => by
    rw [ef]
    unfold wrF
    rw [nI_clamp (by omega), up_n _ _ h3, up_n _ _ (by omega)]
  have x78 : f' 78 = f 78 + 1 := (hlo 78 (by omega)).trans k78
  have x79 : f' 79 = f 79 := (hlo 79 (by omega)).trans (kk 79 (by omega))
  refine ⟨rfl, hW', ⟨?_, CT_B hS.2 hr7 x78 x79 x83 (fun q h1 h2 => (xo _ (by omega) (by omega) (by omega)).trans (kk _ (by omega)))⟩, (hlo 77 (by omega)).trans k77, x78, x79, x80, (xo 81 (by omega) (by omega) (by omega)).trans k81, (xo 82 (by omega) (by omega) (by omega)).trans (kk _ (by omega)), x83⟩
  refine NT_gen (nN_of hW') (fun t => rw4 (cmF f (nI g)) t) (fun t ht => ?_) (fun t ht => okR_c hst0 h40 (mkN_of hW0) (mkN_of hW') (fun m hm => hlo m (by omega)) (lst_ok a1 ht)) (fun s t hst ht => lst_nd a2 _ _ (by omega) (by omega) ht)
  unfold rw4 noteM
  rw [hlo _ (by omega), hlo _ (by omega), hlo _ (by omega), hlo _ (by omega)]
theorem come_C {f f' : Nat → Int32} {mk n b c g d e i : Nat} (hW : WF f mk n b) (hS : SI c f) (hg : g < 6) (hd : d < 10) (he : e = 1 ∨ e = 2) (hno : cmW f (nI g) = true ∨ ∀ j, j < n → isNote f (nI g) (nI d) (nI e) j = false)
    (hr : (wlk f g d (nI e)).1 = 0) (hi : (wlk f g d (nI e)).2 = i) (ef : f' = (comeS f (nI g) (nI d) (nI e)).2) :
    (comeS f (nI g) (nI d) (nI e)).1 = 0 ∧ WF f' mk (min ((if cmW f (nI g) = true then 0 else n) + 1) b) b ∧ SI (c + 1) f' ∧ f' 77 = nI g ∧ f' 78 = f 78 + 1 ∧ f' 79 = f 79 ∧ f' 80 = f 80 + nI i ∧ f' 81 = f 81 + (if cmW f (nI g) = true then nI n else 0) ∧
    f' 82 = f 82 + nI ((if cmW f (nI g) = true then 0 else n) + 1 - b) ∧ f' (83 + 0) = f (83 + 0) + 1 ∧ (∃ t, t < mk ∧ ledM f' g d = nI t ∧ noteM f' (min ((if cmW f (nI g) = true then 0 else n) + 1) b - 1) 3 = ofM f' t 0) ∧
    noteM f' (min ((if cmW f (nI g) = true then 0 else n) + 1) b - 1) 0 = nI g ∧ noteM f' (min ((if cmW f (nI g) = true then 0 else n) + 1) b - 1) 1 = nI d ∧ noteM f' (min ((if cmW f (nI g) = true then 0 else n) + 1) b - 1) 2 = nI e := by
  obtain ⟨hW0, k77, k78, k81, kk⟩ := cm_facts (g := nI g) hW
  obtain ⟨a1, a2⟩ := cm_NT (g := nI g) hW hS.1
  have hst := hW.2.2.2.2.2.2.2.1
  have h40 : mk ≤ 40 := hW.2.1
  have hst0 := hW0.2.2.2.2.2.2.2.1
  have hdo0 := hW0.2.2.2.2.2.2.2.2.2.2.1
  have hwl : wlk (cmF f (nI g)) g d (nI e) = wlk f g d (nI e) := wlk_cx hst h40 hW.2.2.2.2.2.2.2.2.2.2.1 hg hd (fun m hm => kk m (by omega))
  obtain ⟨t, ht, el, eh, eg, er⟩ := wlk_back hst0 h40 hdo0 hg hd (by rw [hwl]; exact hr)
  have hfn := come_no hW hno
  have hnk : ∀ j, j < (if cmW f (nI g) = true then 0 else n) → isNote (cmF f (nI g)) (nI g) (nI d) (nI e) j = false := by
    intro j hj
    rw [isN_cm hW]
    rcases hno with z | z
    · rw [if_pos z] at hj; omega
    · refine z j ?_
      split at hj <;> omega
  generalize hn0 : (if cmW f (nI g) = true then 0 else n) = n0 at *
  have hnb : n0 ≤ b := hW0.2.2.2.2.2.2.1
  have hb : b ≤ 8 := hW0.2.2.2.2.2.1
  have hb1 : 1 ≤ b := hW0.2.2.2.2.1
  have hres : comeS f (nI g) (nI d) (nI e) = (0, drI (n0 + 1) (pnF (wrF (cmF f (nI g)) 0 i) n0 (nI g) (nI d) (nI e) (ofM (cmF f (nI g)) t 0)) (n0 + 1) b) := by
    rw [come_w hg hd he]
    unfold comeW
    rw [nN_of hW0, hfn, if_neg (by decide), hwl, hr, hi, if_pos rfl, el, nI_clamp (by omega), hW0.N.2.2]
  rw [hres] at ef ⊢
  replace ef : f' = drI (n0 + 1) (pnF (wrF (cmF f (nI g)) 0 i) n0 (nI g) (nI d) (nI e) (ofM (cmF f (nI g)) t 0)) (n0 + 1) b := ef
  generalize cmF f (nI g) = f0 at *
  have w1 : WF (wrF f0 0 i) mk n0 b := by
    unfold wrF
    rw [show (0 : Int32).toNatClampNeg = 0 from rfl]
    exact ((hW0.w0.cnt _ (by omega) (by omega)).cnt _ (by omega) (by omega)).w hnb
  have w2 := w1.w0.pn (e := nI e) (p := ofM f0 t 0) (by omega) hg hd
  obtain ⟨d1, d2, d3, d4⟩ := drI_o b (n0 + 1) (pnF (wrF f0 0 i) n0 (nI g) (nI d) (nI e) (ofM f0 t 0)) (n0 + 1) (Nat.le_refl _) (by omega) pn_90
  rw [← ef] at d1 d2 d3 d4
  have hW' : WF f' mk (min (n0 + 1) b) b := by
    obtain ⟨n', h1, h2⟩ := w2.dr (n0 + 1) _ (n0 + 1) (Nat.le_refl _)
    rw [← ef] at h1
    have hn' : n' ≤ b := h1.2.2.2.2.2.2.1
    rw [nI_inj8 (j := min (n0 + 1) b) (k := n') (by omega) (by omega) (d2.symm.trans h1.2.2.1)]
    exact h1
  have plo : ∀ m, m < 82 ∨ (82 < m ∧ m < 90) ∨ 127 ≤ m → f' m = wrF f0 0 i m := fun m hm => (d1 m hm).trans (pn_lo (by omega) (by omega))
  have wlo : ∀ m, m < 80 ∨ 90 ≤ m → wrF f0 0 i m = f0 m := fun m hm => wr_lo (r := 0) (by omega) hm
  have w80 : wrF f0 0 i 80 = f0 80 + nI i := by
    unfold wrF
    rw [show (0 : Int32).toNatClampNeg = 0 from rfl, up_n _ _ (by omega), up_s]
  have w83 : wrF f0 0 i 83 = f0 83 + 1 := by
    unfold wrF
    rw [show (0 : Int32).toNatClampNeg = 0 from rfl, up_s]
  have wo : ∀ m, 81 ≤ m → m < 90 → m ≠ 83 → wrF f0 0 i m = f0 m := fun m h1 h2 h3 => by
    unfold wrF
    rw [show (0 : Int32).toNatClampNeg = 0 from rfl, up_n _ _ (by omega), up_n _ _ (by omega)]
  have x78 : f' 78 = f 78 + 1 := (plo 78 (by omega)).trans ((wlo 78 (by omega)).trans k78)
  have x79 : f' 79 = f 79 := (plo 79 (by omega)).trans ((wlo 79 (by omega)).trans (kk 79 (by omega)))
  have x83 : f' 83 = f 83 + 1 := (plo 83 (by omega)).trans (w83.trans (by rw [kk 83 (by omega)]))
  have hag : ∀ m, (4 ≤ m ∧ m < 76) ∨ 127 ≤ m → f' m = f0 m := fun m hm => (plo m (by omega)).trans (wlo m (by omega))
  have hrow : ∀ t', t' < min (n0 + 1) b → ∀ w, w < 4 → noteM f' t' w = lastNote (wrF f0 0 i) n0 (nI g) (nI d) (nI e) (ofM f0 t 0) (t' + (n0 + 1 - b)) w := fun t' ht' w hw => (d4 t' w hw (by omega)).trans (pn_no _ _ hw)
  have hrl : ∀ w, w < 4 → noteM f' (min (n0 + 1) b - 1) w = (if w = 0 then nI g else if w = 1 then nI d else if w = 2 then nI e else ofM f0 t 0) := fun w hw => by
    rw [hrow _ (by omega) w hw]
    unfold lastNote
    rw [if_pos (by omega)]
  have hro : ∀ t', t' < min (n0 + 1) b → t' ≠ min (n0 + 1) b - 1 → rw4 f' t' = rw4 f0 (t' + (n0 + 1 - b)) ∧ t' + (n0 + 1 - b) < n0 := fun t' ht' hne => by
    refine ⟨?_, by omega⟩
    unfold rw4
    rw [hrow t' ht' 0 (by omega), hrow t' ht' 1 (by omega), hrow t' ht' 2 (by omega), hrow t' ht' 3 (by omega)]
    unfold lastNote
    rw [if_neg (by omega), if_neg (by omega), if_neg (by omega), if_neg (by omega)]
    unfold noteM
    rw [wlo _ (by omega), wlo _ (by omega), wlo _ (by omega), wlo _ (by omega)]
  have hx : okR f' (nI g, nI d, nI e, ofM f0 t 0) := by
    refine ⟨g, d, e, t, hg, hd, he, by rw [mkN_of hW']; exact ht, rfl, rfl, rfl, (show ledM f' g d = ledM f0 g d from hag _ (by omega)).trans el, (show ofM f0 t 0 = ofM f' t 0 from (hag _ (by omega)).symm), (show ofM f' t 2 = ofM f0 t 2 from hag _ (by omega)).trans eh, (gd_cx hst0 h40 (fun m hm => hag m (by omega)) ht).trans eg, by rw [show ofM f' t 3 = ofM f0 t 3 from hag _ (by omega)]; exact er⟩
  have hxk : ∀ j, j < n0 → key4 (rw4 f0 j) ≠ (nI g, nI d, nI e) := fun j hj z => by
    have h := hnk j hj
    rw [isN_t (congrArg Prod.fst z) (congrArg (fun x => x.2.1) z) (congrArg (fun x => x.2.2) z)] at h
    exact Bool.false_ne_true h.symm
  refine ⟨rfl, hW', ⟨?_, CT_B (q := 0) hS.2 (by omega) x78 x79 x83 (fun q h1 h2 => (plo _ (by omega)).trans ((wo _ (by omega) (by omega) (by omega)).trans (kk _ (by omega))))⟩, (plo 77 (by omega)).trans ((wlo 77 (by omega)).trans k77), x78, x79,
    (plo 80 (by omega)).trans (w80.trans (by rw [kk 80 (by omega)])), (plo 81 (by omega)).trans ((wo 81 (by omega) (by omega) (by omega)).trans k81), ?_, x83, ⟨t, ht, (show ledM f' g d = ledM f0 g d from hag _ (by omega)).trans el, (hrl 3 (by omega)).trans (show ofM f0 t 0 = ofM f' t 0 from (hag _ (by omega)).symm)⟩, hrl 0 (by omega), hrl 1 (by omega), hrl 2 (by omega)⟩
  · refine NT_gen (nN_of hW') (fun t' => if t' = min (n0 + 1) b - 1 then (nI g, nI d, nI e, ofM f0 t 0) else rw4 f0 (t' + (n0 + 1 - b))) (fun t' ht' => ?_) (fun t' ht' => ?_) (fun s t' hst ht' => ?_)
    · by_cases h : t' = min (n0 + 1) b - 1
      · rw [if_pos h, h]
        unfold rw4
        rw [hrl 0 (by omega), hrl 1 (by omega), hrl 2 (by omega), hrl 3 (by omega)]
        rfl
      · rw [if_neg h]
        exact (hro t' ht' h).1
    · by_cases h : t' = min (n0 + 1) b - 1
      · rw [if_pos h]; exact hx
      · rw [if_neg h]
        exact okR_c hst0 h40 (mkN_of hW0) (mkN_of hW') hag (lst_ok a1 (hro t' ht' h).2)
    · have hs1 : s ≠ min (n0 + 1) b - 1 := by omega
      rw [if_neg hs1]
      have hs2 := (hro s (by omega) hs1).2
      by_cases h : t' = min (n0 + 1) b - 1
      · rw [if_pos h]
        exact hxk _ hs2
      · rw [if_neg h]
        exact lst_nd a2 _ _ (by omega) hs2 (hro t' ht' h).2
  · rw [d3, pn_lo (by omega) (by omega), wo 82 (by omega) (by omega) (by omega), kk 82 (by omega)]
