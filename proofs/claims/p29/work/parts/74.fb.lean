/-! ===== the flags of all 40 stamps are 0 or 1 ===== -/
def FB (f : Nat → Int32) : Prop := ∀ s, s < 40 → (f (132 + 7 * s) = 0 ∨ f (132 + 7 * s) = 1) ∧ (f (133 + 7 * s) = 0 ∨ f (133 + 7 * s) = 1)
theorem FB_hi {f g : Nat → Int32} (h : ∀ m, 127 ≤ m → g m = f m) (hF : FB f) : FB g := fun s hs => by
  rw [h (132 + 7 * s) (by omega), h (133 + 7 * s) (by omega)]
  exact hF s hs
theorem FB_c {f g : Nat → Int32} (h : ∀ m, m < 407 → g m = f m) (hF : FB f) : FB g := fun s hs => by
  rw [h (132 + 7 * s) (by omega), h (133 + 7 * s) (by omega)]
  exact hF s hs
theorem FB_up {f : Nat → Int32} {m : Nat} {v : Int32} (hF : FB f) (hv : v = 0 ∨ v = 1) : FB (up f m v) := fun s hs => by
  obtain ⟨h1, h2⟩ := hF s hs
  rw [up_e, up_e]
  refine ⟨?_, ?_⟩
  · by_cases h : 132 + 7 * s = m
    · rw [if_pos h]; exact hv
    · rw [if_neg h]; exact h1
  · by_cases h : 133 + 7 * s = m
    · rw [if_pos h]; exact hv
    · rw [if_neg h]; exact h2
theorem FB_un {f : Nat → Int32} {m : Nat} {v : Int32} (hF : FB f) (hm : ∀ s, 132 + 7 * s ≠ m ∧ 133 + 7 * s ≠ m) : FB (up f m v) := fun s hs => by
  rw [up_n _ _ (hm s).1, up_n _ _ (hm s).2]
  exact hF s hs
theorem wkI_hi {P : Nat → Bool} : ∀ (j : Nat) (f : Nat → Int32) (n c : Nat), n ≤ 9 → ∀ m, 127 ≤ m → (wkI P j f n c).1 m = f m
  | 0, f, n, c, _, m, _ => rfl
  | j + 1, f, n, c, h, m, hm => by
    rw [wkI]
    split
    · rw [wkI_hi j _ _ _ (by omega) m hm, tkF_hi (by omega)]
    · exact wkI_hi j f n c h m hm
theorem wkF_hi {P : Nat → Bool} {f : Nat → Int32} {n m : Nat} (h : n ≤ 9) (hm : 127 ≤ m) : wkF P f n m = f m := by
  unfold wkF
  rw [up_n _ _ (by omega)]
  exact wkI_hi n f n 0 h m hm
theorem drI_hi : ∀ (k : Nat) (f : Nat → Int32) (n b : Nat), n ≤ 9 → ∀ m, 127 ≤ m → drI k f n b m = f m
  | 0, f, n, b, _, m, _ => rfl
  | k + 1, f, n, b, h, m, hm => by
    rw [drI]
    split
    · rw [drI_hi k _ _ _ (by omega) m hm, up_n _ _ (by omega), tkF_hi (by omega)]
    · rfl
theorem FB_mk {f : Nat → Int32} {mk : Nat} {gv hd pg rt ro fo : Int32} (hF : FB f) (hfo : fo = 0 ∨ fo = 1) : FB (mkF f mk gv hd pg rt ro fo) := by
  unfold mkF
  exact FB_un (FB_up (FB_up (FB_un (FB_un (FB_un (FB_un (FB_un hF (by omega)) (by omega)) (by omega)) (by omega)) (by omega)) hfo) (Or.inl rfl)) (by omega)
theorem own_fb {f : Nat → Int32} {x gu : Int32} (h : WFx f) (hF : FB f) : FB (ownS f x gu).2 := by
  obtain ⟨mk, n, b, hW⟩ := h
  obtain ⟨e1, e2, e3⟩ := hW.N
  have hn : n ≤ b := hW.2.2.2.2.2.2.1
  have hb : b ≤ 8 := hW.2.2.2.2.2.1
  unfold ownS wipeS
  split
  · rename_i hc
    obtain ⟨hp, hg⟩ := Bool.and_eq_true_iff.mp hc
    obtain ⟨p, hp1, rfl⟩ := rng_nI hp
    rw [nI_clamp (by omega), e2]
    split
    · exact hF
    · exact FB_hi (fun m hm => (wkF_hi (by omega) hm).trans (up_n _ _ (by omega))) hF
  · exact hF
theorem stamp_fb {f : Nat → Int32} {gv hd pg rt : Int32} (hF : FB f) : FB (stampS f gv hd pg rt).2 := by
  unfold stampS
  split
  · split
    · split
      · exact hF
      · split
        · exact FB_mk hF (Or.inl rfl)
        · exact hF
    · exact hF
  · exact hF
theorem pass_fb {f : Nat → Int32} {sx hd rt : Int32} (hF : FB f) : FB (passS f sx hd rt).2 := by
  unfold passS
  split
  · split
    · split
      · exact hF
      · split
        · exact FB_mk hF (Or.inl rfl)
        · exact hF
    · exact hF
  · exact hF
theorem forge_fb {f : Nat → Int32} {gv hd pg rt ro : Int32} (hF : FB f) : FB (forgeS f gv hd pg rt ro).2 := by
  unfold forgeS
  split
  · split
    · split
      · exact hF
      · exact FB_mk hF (Or.inr rfl)
    · exact hF
  · exact hF
theorem take_fb {f : Nat → Int32} {sx : Int32} (h : WFx f) (hF : FB f) : FB (takeS f sx).2 := by
  obtain ⟨mk, n, b, hW⟩ := h
  obtain ⟨e1, e2, e3⟩ := hW.N
  have hn : n ≤ b := hW.2.2.2.2.2.2.1
  have hb : b ≤ 8 := hW.2.2.2.2.2.1
  unfold takeS wipeS
  split
  · split
    · exact hF
    · rw [e2]
      exact FB_hi (fun m hm => wkF_hi (by omega) hm) (FB_up hF (Or.inr rfl))
  · exact hF
theorem door_fb {f : Nat → Int32} {g d sx : Int32} (h : WFx f) (hF : FB f) : FB (doorS f g d sx).2 := by
  obtain ⟨mk, n, b, hW⟩ := h
  obtain ⟨e1, e2, e3⟩ := hW.N
  have hn : n ≤ b := hW.2.2.2.2.2.2.1
  have hb : b ≤ 8 := hW.2.2.2.2.2.1
  unfold doorS
  split
  · rename_i hc
    obtain ⟨hgd, -⟩ := Bool.and_eq_true_iff.mp hc
    obtain ⟨hg, hd⟩ := Bool.and_eq_true_iff.mp hgd
    obtain ⟨q, hq, rfl⟩ := rng_nI hg
    obtain ⟨k, hk, rfl⟩ := rng_nI hd
    rw [nI_clamp (by omega), nI_clamp (by omega)]
    split
    · exact hF
    · rw [e2]
      exact FB_hi (fun m hm => (wkF_hi (by omega) hm).trans (up_n _ _ (by omega))) hF
  · exact hF
theorem wpF_hi {f : Nat → Int32} {m : Nat} (hm : 127 ≤ m) : wpF f m = f m := by
  unfold wpF
  rw [up_n _ _ (by omega), up_n _ _ (by omega)]
theorem seF_hi {f : Nat → Int32} {m : Nat} (hm : 127 ≤ m) : seF f m = f m := by
  unfold seF
  rw [up_n _ _ (by omega), up_n _ _ (by omega), up_n _ _ (by omega)]
theorem seeF_hi {f : Nat → Int32} {nn q m : Nat} (h : nn ≤ 9) (hm : 127 ≤ m) : seeF f nn q m = f m := by
  unfold seeF
  split
  · rw [pnF_o (by omega) (by omega), tkF_hi (by omega), seF_hi hm]
  · exact seF_hi hm
theorem comeW_hi {f : Nat → Int32} {g d n m : Nat} {nd : Int32} (h90 : nN f = n) (h : n ≤ 8) (hm : 127 ≤ m) : (comeW f g d nd).2 m = f m := by
  unfold comeW
  rw [h90]
  split
  · exact seeF_hi (by omega) hm
  · obtain ⟨q, hq, eq⟩ := (wlk_le f g d nd).1
    have hw : ∀ m, 127 ≤ m → wrF f (wlk f g d nd).1 (wlk f g d nd).2 m = f m := fun m hm => by
      unfold wrF
      rw [eq, nI_clamp (by omega), up_n _ _ (by omega), up_n _ _ (by omega)]
    by_cases h0 : (wlk f g d nd).1 = 0
    · rw [if_pos h0]
      exact (drI_hi _ _ _ _ (by omega) m hm).trans ((pnF_o (by omega) (by omega)).trans (hw m hm))
    · rw [if_neg h0]
      exact hw m hm
theorem come_fb {f : Nat → Int32} {g d nd : Int32} (h : WFx f) (hF : FB f) : FB (comeS f g d nd).2 := by
  obtain ⟨mk, n, b, hW⟩ := h
  have hn : n ≤ b := hW.2.2.2.2.2.2.1
  have hb : b ≤ 8 := hW.2.2.2.2.2.1
  obtain ⟨n2, h1, h2, -⟩ := cmF_ok hW g
  unfold comeS
  split
  · split
    · exact FB_hi (fun m hm => by
        rw [comeW_hi (n := n2) (by unfold nN; rw [h1]; exact nI_clamp (by omega)) (by omega) hm, cmF_keep _ _ (by omega) (by omega) (by omega) (by omega)]) hF
    · exact hF
  · exact hF
theorem flush_fb {f : Nat → Int32} (hF : FB f) : FB (flushS f).2 := FB_hi (fun m hm => wpF_hi hm) hF
theorem set_fb {f : Nat → Int32} {x v : Int32} (h : WFx f) (hF : FB f) : FB (setS f x v).2 := by
  obtain ⟨mk, n, b, hW⟩ := h
  obtain ⟨e1, e2, e3⟩ := hW.N
  have hn : n ≤ b := hW.2.2.2.2.2.2.1
  have hb : b ≤ 8 := hW.2.2.2.2.2.1
  unfold setS
  by_cases hc : (rng 4 x && decide ((if x = 0 then (1 : Int) else 0) ≤ v.toInt ∧ v.toInt ≤ (hiS x).toInt)) = true
  · rw [if_pos hc]
    obtain ⟨hp, -⟩ := Bool.and_eq_true_iff.mp hc
    obtain ⟨p, hp1, rfl⟩ := rng_nI hp
    rw [nI_clamp (by omega), e2]
    exact FB_hi (fun m hm => (drI_hi _ _ _ _ (by omega) m hm).trans (up_n _ _ (by omega))) hF
  · rw [if_neg hc]
    exact hF
theorem cr_fb {f : Nat → Int32} {c v0 v1 v2 v3 : Int32} (h : WFx f) (hF : FB f) : FB (crS f c v0 v1 v2 v3).2 := by
  unfold crS
  split
  · exact door_fb h hF
  · split
    · exact own_fb h hF
    · split
      · exact pass_fb hF
      · split
        · exact stamp_fb hF
        · split
          · exact take_fb h hF
          · exact come_fb h hF
/-! ===== rows that agree below 407 ===== -/
theorem WF_c {f g : Nat → Int32} {mk n b : Nat} (h : ∀ m, m < 407 → g m = f m) (hW : WF f mk n b) : WF g mk n b := by
  obtain ⟨h1, h2, h3, h4, h5, h6, h7, h8, h9, h10, h11, h12, h13, h14, h15⟩ := hW
  have hn8 : n ≤ 8 := by omega
  exact ⟨by rw [h 76 (by omega)]; exact h1, h2, by rw [h 90 (by omega)]; exact h3, by rw [h 0 (by omega)]; exact h4, h5, h6, h7, fun s hs => stOK_c (fun w hw => h _ (by omega)) (h8 s hs), fun k hk => noOK_c (fun w hw => h _ (by omega)) (h9 k hk), fun p hp => by rw [h _ (by omega)]; exact h10 p hp, fun k hk => by rw [h _ (by omega)]; exact h11 k hk, by rw [h 1 (by omega)]; exact h12, by rw [h 2 (by omega)]; exact h13, by rw [h 3 (by omega)]; exact h14, fun s z1 z2 => by rw [h _ (by omega), h _ (by omega)]; exact h15 s z1 z2⟩
theorem NR_c4 {f g : Nat → Int32} {na : Nat → Nat → Int32} {n : Nat} (h8 : n ≤ 8) (h : ∀ m, m < 407 → g m = f m) (hN : NR f na n) : NR g na n := fun k hk j hj => by
  rw [hN k hk j hj]
  exact (h _ (by omega)).symm
theorem wH_c {D : DT} {a : Nat → Nat} {f g : Nat → Int32} {na : Nat → Nat → Int32} (h : ∀ m, m < 407 → f m = g m) : wH D a f na = wH D a g na := by
  have e : ∀ n o st, (∀ k, k < n → o + st * k < 407) → cl n o st f = cl n o st g := fun n o st h2 => cl_ext (fun k hk => h _ (h2 k hk))
  have b5 : mkB f 5 = mkB g 5 := mkB_c (fun s hs => h _ (by omega))
  have b6 : mkB f 6 = mkB g 6 := mkB_c (fun s hs => h _ (by omega))
  simp only [wH, b5, b6, e 12 4 1 (by omega), e 60 16 1 (by omega), e 4 0 1 (by omega), e 7 83 1 (by omega), e 40 127 7 (by omega), e 40 128 7 (by omega), e 40 129 7 (by omega), e 40 130 7 (by omega), e 40 131 7 (by omega), h 77 (by omega), h 78 (by omega), h 79 (by omega), h 80 (by omega), h 76 (by omega), h 90 (by omega), h 81 (by omega), h 82 (by omega)]
theorem wHW_c2 {D : DT} {a : Nat → Nat} {f g : Nat → Int32} {na : Nat → Nat → Int32} {w : Nat → Int32} (h : ∀ m, m < 407 → f m = g m) : wHW D a f na w = wHW D a g na w := by
  unfold wHW
  rw [wH_c h]
theorem cpy_cl {n o st : Nat} {f g : Nat → Int32} : va_cpy (cl n o st f) (cl n o st g) 0 0 n = cl n o st f := by
  funext k
  unfold va_cpy
  by_cases hk : k < n
  · rw [if_pos (by omega), show 0 + (k - 0) = k from by omega]
  · rw [if_neg (by omega)]
    simp [cl, hk]
theorem cl_fit {o : Nat} {f : Nat → Int32} (h : ∀ s, s < 40 → f (o + 7 * s) = 0 ∨ f (o + 7 * s) = 1) (i : Nat) (hi : i < 40) : fits .boolean (.int (cl 40 o 7 f i)) = true := by
  rw [cl_in hi]
  rcases h i hi with e | e <;> rw [e] <;> rfl
