/-! ===== what a visit leaves ===== -/
theorem NT_gen {f : Nat → Int32} {n : Nat} (eN : nN f = n) (ρ : Nat → Int32 × Int32 × Int32 × Int32) (h1 : ∀ t, t < n → rw4 f t = ρ t) (h2 : ∀ t, t < n → okR f (ρ t)) (h3 : ∀ i j, i < j → j < n → key4 (ρ i) ≠ key4 (ρ j)) : NT f := by
  refine ⟨fun x hx => ?_, ?_⟩
  · obtain ⟨t, ht, rfl⟩ := List.mem_map.mp hx
    have ht := List.mem_range.mp ht
    rw [eN] at ht
    rw [h1 t ht]
    exact h2 t ht
  · unfold ntl
    rw [eN, List.map_map]
    refine List.pairwise_iff_getElem.mpr (fun i j hi hj hij => ?_)
    rw [List.length_map, List.length_range] at hi hj
    rw [List.getElem_map, List.getElem_map, List.getElem_range, List.getElem_range]
    show key4 (rw4 f i) ≠ key4 (rw4 f j)
    rw [h1 i hi, h1 j hj]
    exact h3 i j hij hj
theorem lst_ok {f : Nat → Int32} {n k : Nat} (h : ∀ x ∈ ntl f n, okR f x) (hk : k < n) : okR f (rw4 f k) := h _ (List.mem_map.mpr ⟨k, List.mem_range.mpr hk, rfl⟩)
theorem lst_nd {f : Nat → Int32} {n : Nat} (h : ((ntl f n).map key4).Nodup) : ∀ i j, i ≠ j → i < n → j < n → key4 (rw4 f i) ≠ key4 (rw4 f j) := by
  have hp : ∀ i j, i < j → j < n → key4 (rw4 f i) ≠ key4 (rw4 f j) := by
    intro i j hij hj
    unfold ntl at h
    rw [List.map_map] at h
    have h2 := List.pairwise_iff_getElem.mp h i j (by rw [List.length_map, List.length_range]; omega) (by rw [List.length_map, List.length_range]; exact hj) hij
    rw [List.getElem_map, List.getElem_map, List.getElem_range, List.getElem_range] at h2
    exact h2
  intro i j hij hi hj
  rcases Nat.lt_or_ge i j with q | q
  · exact hp i j q hj
  · exact fun z => hp j i (by omega) hi z.symm
theorem come_w {f : Nat → Int32} {g d e : Nat} (hg : g < 6) (hd : d < 10) (he : e = 1 ∨ e = 2) : comeS f (nI g) (nI d) (nI e) = comeW (cmF f (nI g)) g d (nI e) := by
  unfold comeS
  rw [rng_nI' hg (by omega), rng_nI' hd (by omega), if_pos (by decide), if_pos (by rcases he with rfl | rfl <;> decide), nI_clamp (by omega), nI_clamp (by omega)]
theorem isN_cm {f : Nat → Int32} {g : Int32} {x y z : Int32} {mk n b k : Nat} (hW : WF f mk n b) : isNote (cmF f g) x y z k = isNote f x y z k := by
  obtain ⟨-, -, -, -, h5⟩ := cm_facts (g := g) hW
  unfold isNote noteM
  rw [h5 _ (by omega), h5 _ (by omega), h5 _ (by omega)]
theorem come_A {f f' : Nat → Int32} {mk n b c g d e j : Nat} (hW : WF f mk n b) (hS : SI c f) (hg : g < 6) (hd : d < 10) (he : e = 1 ∨ e = 2) (hw : cmW f (nI g) = false) (hj : j < n) (hm : isNote f (nI g) (nI d) (nI e) j = true) (ef : f' = (comeS f (nI g) (nI d) (nI e)).2) :
    (comeS f (nI g) (nI d) (nI e)).1 = 0 ∧ WF f' mk n b ∧ SI (c + 1) f' ∧ f' 77 = nI g ∧ f' 78 = f 78 + 1 ∧ f' 79 = f 79 + 1 ∧ f' 80 = f 80 + 1 ∧ f' 81 = f 81 ∧ f' 3 = f 3 ∧ f' (83 + 0) = f (83 + 0) + 1 ∧
    (f 3 = 1 → noteM f' (n - 1) 0 = nI g ∧ noteM f' (n - 1) 1 = nI d ∧ noteM f' (n - 1) 2 = nI e) ∧ (¬ f 3 = 1 → noteM f' j 0 = nI g ∧ noteM f' j 1 = nI d ∧ noteM f' j 2 = nI e) := by
  obtain ⟨hW0, k77, k78, k81, kk⟩ := cm_facts (g := nI g) hW
  obtain ⟨a1, a2⟩ := cm_NT (g := nI g) hW hS.1
  rw [hw, if_neg Bool.false_ne_true] at hW0 k81 a1 a2
  rw [Int32.add_zero] at k81
  have hst := hW.2.2.2.2.2.2.2.1
  have h40 : mk ≤ 40 := hW.2.1
  have hb : b ≤ 8 := hW.2.2.2.2.2.1
  have hnb : n ≤ b := hW.2.2.2.2.2.2.1
  obtain ⟨q, -, hqj, hq, eq⟩ := fnd_some (P := isNote (cmF f (nI g)) (nI g) (nI d) (nI e)) n 0 j (by omega) (by omega) (by rw [isN_cm hW]; exact hm)
  have hqn : q < n := by omega
  obtain ⟨q0, q1, q2⟩ := isN_key hq
  have hres : comeS f (nI g) (nI d) (nI e) = (0, seeF (cmF f (nI g)) n q) := by
    rw [come_w hg hd he]
    unfold comeW
    rw [nN_of hW0, eq, if_pos (nI_ge0 (by omega)), nI_clamp (by omega)]
  rw [hres] at ef ⊢
  replace ef : f' = seeF (cmF f (nI g)) n q := ef
  generalize cmF f (nI g) = f0 at *
  have h1 : WF (seF f0) mk n b := (((hW0.w0.cnt _ (by omega) (by omega)).cnt _ (by omega) (by omega)).cnt _ (by omega) (by omega)).w hnb
  have se : ∀ m, m ≠ 79 → m ≠ 80 → m ≠ 83 → seF f0 m = f0 m := fun m x1 x2 x3 => by unfold seF; rw [up_n _ _ x3, up_n _ _ x2, up_n _ _ x1]
  have s79 : seF f0 79 = f0 79 + 1 := by unfold seF; rw [up_n _ _ (by omega), up_n _ _ (by omega), up_s]
  have s80 : seF f0 80 = f0 80 + 1 := by unfold seF; rw [up_n _ _ (by omega), up_s]
  have s83 : seF f0 83 = f0 83 + 1 := by unfold seF; rw [up_s]
  have hst0 := hW0.2.2.2.2.2.2.2.1
  -- below and above the notes
  have key : (∀ m, m < 90 ∨ 127 ≤ m → f' m = seF f0 m) ∧ WF f' mk n b ∧ ∃ π : Nat → Nat, (∀ t, t < n → π t < n ∧ rw4 f' t = rw4 f0 (π t)) ∧ (∀ s t, s < t → t < n → π s ≠ π t) ∧ (f0 3 = 1 → π (n - 1) = q) ∧ (¬ f0 3 = 1 → π = id) := by
    rw [ef]
    unfold seeF
    by_cases h3 : f0 3 = 1
    · rw [if_pos h3]
      have sno : ∀ k w, w < 4 → noteM (seF f0) k w = noteM f0 k w := fun k w hw => se _ (by omega) (by omega) (by omega)
      have hlast : ∀ t w, w < 4 → noteM (pnF (tkF (seF f0) n q) (n - 1) (noteM f0 q 0) (noteM f0 q 1) (noteM f0 q 2) (noteM f0 q 3)) t w = lastNote (tkF (seF f0) n q) (n - 1) (noteM f0 q 0) (noteM f0 q 1) (noteM f0 q 2) (noteM f0 q 3) t w := fun t w hw => pn_no t w hw
      have h2 : WF (pnF (tkF (seF f0) n q) (n - 1) (noteM f0 q 0) (noteM f0 q 1) (noteM f0 q 2) (noteM f0 q 3)) mk n b := by
        rw [q0, q1]
        have z := ((h1.w0.tk (n := q) hqn).pn (e := noteM f0 q 2) (p := noteM f0 q 3) (by omega) hg hd).w (by omega)
        rw [show n - 1 + 1 = n from by omega] at z
        exact z
      refine ⟨fun m hm => ?_, h2, fun t => if t < q then t else if t < n - 1 then t + 1 else q, fun t ht => ⟨?_, ?_⟩, fun s t hst htn => ?_, fun _ => ?_, fun z => absurd h3 z⟩
      · rw [pnF_o (by omega) (by omega)]
        rcases hm with z | z
        · exact tkF_lo (by omega)
        · exact tkF_hi (by omega)
      · show (if t < q then t else if t < n - 1 then t + 1 else q) < n
        split
        · omega
        · split <;> omega
      · show rw4 _ t = rw4 f0 (if t < q then t else if t < n - 1 then t + 1 else q)
        unfold rw4
        rw [hlast t 0 (by omega), hlast t 1 (by omega), hlast t 2 (by omega), hlast t 3 (by omega)]
        unfold lastNote
        by_cases ht1 : t = n - 1
        · rw [if_pos ht1, if_pos ht1, if_pos ht1, if_pos ht1, if_neg (by omega : ¬ t < q), if_neg (by omega : ¬ t < n - 1)]
          rfl
        · rw [if_neg ht1, if_neg ht1, if_neg ht1, if_neg ht1]
          by_cases htq : t < q
          · rw [if_pos htq, tkF_no htq (by omega), tkF_no htq (by omega), tkF_no htq (by omega), tkF_no htq (by omega), sno _ _ (by omega), sno _ _ (by omega), sno _ _ (by omega), sno _ _ (by omega)]
          · rw [if_neg htq, if_pos (by omega), tkF_eq (by omega) (by omega) (by omega), tkF_eq (by omega) (by omega) (by omega), tkF_eq (by omega) (by omega) (by omega), tkF_eq (by omega) (by omega) (by omega), sno _ _ (by omega), sno _ _ (by omega), sno _ _ (by omega), sno _ _ (by omega)]
      · show (if s < q then s else if s < n - 1 then s + 1 else q) ≠ (if t < q then t else if t < n - 1 then t + 1 else q)
        split
        · split
          · omega
          · split <;> omega
        · split
          · split
            · omega
            · split <;> omega
          · omega
      · show (if n - 1 < q then n - 1 else if n - 1 < n - 1 then n - 1 + 1 else q) = q
        rw [if_neg (by omega), if_neg (by omega)]
    · rw [if_neg h3]
      refine ⟨fun _ _ => rfl, h1, id, fun t ht => ⟨ht, ?_⟩, fun s t hst _ => by show s ≠ t; omega, fun z => absurd z h3, fun _ => rfl⟩
      show rw4 (seF f0) t = rw4 f0 t
      unfold rw4 noteM
      rw [se _ (by omega) (by omega) (by omega), se _ (by omega) (by omega) (by omega), se _ (by omega) (by omega) (by omega), se _ (by omega) (by omega) (by omega)]
  obtain ⟨hlo, hW', π, hπ, hinj, hk1, hk0⟩ := key
  have e3 : f0 3 = f 3 := kk 3 (by omega)
  have hag : ∀ m, (4 ≤ m ∧ m < 76) ∨ 127 ≤ m → f' m = f0 m := fun m hm => (hlo m (by omega)).trans (se m (by omega) (by omega) (by omega))
  have x83 : f' 83 = f 83 + 1 := (hlo 83 (by omega)).trans (s83.trans (by rw [kk 83 (by omega)]))
  have x78 : f' 78 = f 78 + 1 := (hlo 78 (by omega)).trans ((se 78 (by omega) (by omega) (by omega)).trans k78)
  have x79 : f' 79 = f 79 + 1 := (hlo 79 (by omega)).trans (s79.trans (by rw [kk 79 (by omega)]))
  refine ⟨rfl, hW', ⟨?_, CT_A hS.2 x78 x79 x83 (fun r h1 h2 => (hlo _ (by omega)).trans ((se _ (by omega) (by omega) (by omega)).trans (kk _ (by omega))))⟩, ?_, x78, x79, ?_, ?_, ?_, x83, fun h => ?_, fun h => ?_⟩
  · refine NT_gen (nN_of hW') (fun t => rw4 f0 (π t)) (fun t ht => (hπ t ht).2) (fun t ht => okR_c hst0 h40 (mkN_of hW0) (mkN_of hW') hag (lst_ok a1 (hπ t ht).1)) (fun s t hst ht => lst_nd a2 _ _ (hinj s t hst ht) (hπ s (by omega)).1 (hπ t ht).1)
  · exact (hlo 77 (by omega)).trans ((se 77 (by omega) (by omega) (by omega)).trans k77)
  · exact (hlo 80 (by omega)).trans (s80.trans (by rw [kk 80 (by omega)]))
  · exact (hlo 81 (by omega)).trans ((se 81 (by omega) (by omega) (by omega)).trans k81)
  · exact (hlo 3 (by omega)).trans ((se 3 (by omega) (by omega) (by omega)).trans e3)
  · have h4 := (hπ (n - 1) (by omega)).2
    rw [hk1 (e3.trans h)] at h4
    exact ⟨(congrArg Prod.fst h4).trans q0, (congrArg (fun x => x.2.1) h4).trans q1, (congrArg (fun x => x.2.2.1) h4).trans q2⟩
  · have h4 := (hπ j hj).2
    rw [hk0 (fun z => h (e3.symm.trans z))] at h4
    obtain ⟨j0, j1, j2⟩ := isN_key hm
    have jn : ∀ w, w < 4 → noteM f0 j w = noteM f j w := fun w hw => kk _ (by omega)
    exact ⟨(congrArg Prod.fst h4).trans ((jn 0 (by omega)).trans j0), (congrArg (fun x => x.2.1) h4).trans ((jn 1 (by omega)).trans j1), (congrArg (fun x => x.2.2.1) h4).trans ((jn 2 (by omega)).trans j2)⟩
