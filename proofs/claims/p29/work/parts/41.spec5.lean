/-! ===== the state stays in order ===== -/
def WF0 (f : Nat → Int32) (mk n b : Nat) : Prop :=
  f 76 = nI mk ∧ mk ≤ 40 ∧ f 90 = nI n ∧ f 0 = nI b ∧ 1 ≤ b ∧ b ≤ 8 ∧ n ≤ 9 ∧
  (∀ s, s < mk → stOK f s) ∧ (∀ k, k < n → noOK f k) ∧ (∀ p, p < 12 → f (4 + p) = -6 ∨ ∃ g : Nat, g < 6 ∧ f (4 + p) = nI g) ∧ (∀ k, k < 60 → f (16 + k) = -6 ∨ ∃ s : Nat, s < mk ∧ f (16 + k) = nI s) ∧
  (f 1 = 0 ∨ f 1 = 1) ∧ (f 2 = 0 ∨ f 2 = 1 ∨ f 2 = 2) ∧ (f 3 = 0 ∨ f 3 = 1) ∧ ZF f mk
theorem WF.w0 {f : Nat → Int32} {mk n b : Nat} (h : WF f mk n b) : WF0 f mk n b := by
  obtain ⟨h1, h2, h3, h4, h5, h6, h7, h8⟩ := h
  exact ⟨h1, h2, h3, h4, h5, h6, by omega, h8⟩
theorem WF0.w {f : Nat → Int32} {mk n b : Nat} (h : WF0 f mk n b) (hn : n ≤ b) : WF f mk n b := by
  obtain ⟨h1, h2, h3, h4, h5, h6, -, h8⟩ := h
  exact ⟨h1, h2, h3, h4, h5, h6, hn, h8⟩
/-- what is the same below the notes and above them -/
theorem WF0.of {f g : Nat → Int32} {mk n n' b : Nat} (h : WF0 f mk n b) (h90 : g 90 = nI n') (hn : n' ≤ 9) (hlo : ∀ m, m < 77 → g m = f m) (hhi : ∀ m, 127 ≤ m → g m = f m) (hno : ∀ k, k < n' → noOK g k) : WF0 g mk n' b := by
  obtain ⟨h1, h2, h3, h4, h5, h6, h7, h8, h9, h10, h11, h12, h13, h14, h15⟩ := h
  refine ⟨by rw [hlo 76 (by omega)]; exact h1, h2, h90, by rw [hlo 0 (by omega)]; exact h4, h5, h6, hn, fun s hs => stOK_c (fun w hw => hhi _ (by omega)) (h8 s hs), hno, fun p hp => by rw [hlo _ (by omega)]; exact h10 p hp, fun k hk => by rw [hlo _ (by omega)]; exact h11 k hk, by rw [hlo 1 (by omega)]; exact h12, by rw [hlo 2 (by omega)]; exact h13, by rw [hlo 3 (by omega)]; exact h14, fun s z1 z2 => by rw [hhi _ (by omega), hhi _ (by omega)]; exact h15 s z1 z2⟩
theorem WF0.cnt {f : Nat → Int32} {mk n b m : Nat} (h : WF0 f mk n b) (v : Int32) (h1 : 77 ≤ m) (h2 : m < 90) : WF0 (up f m v) mk n b :=
  h.of (by rw [up_n _ _ (by omega)]; exact h.2.2.1) h.2.2.2.2.2.2.1 (fun j hj => up_n _ _ (by omega)) (fun j hj => up_n _ _ (by omega)) (fun k hk => noOK_c (fun w hw => up_n _ _ (by omega)) (h.2.2.2.2.2.2.2.2.1 k hk))
theorem tkF_eq {f : Nat → Int32} {nn n k w : Nat} (h : n ≤ k) (hk : k + 1 < nn) (hw : w < 4) : noteM (tkF f nn n) k w = noteM f (k + 1) w := by
  unfold noteM tkF tkI
  rw [if_neg (by omega), if_pos (by omega)]
  congr 1
theorem tkF_hi {f : Nat → Int32} {nn n m : Nat} (h : 91 + 4 * (nn - 1) ≤ m) : tkF f nn n m = f m := by
  unfold tkF tkI
  rw [if_neg (by omega), if_neg (by omega)]
theorem WF0.tk {f : Nat → Int32} {mk nn b n : Nat} (h : WF0 f mk nn b) (hn : n < nn) : WF0 (tkF f nn n) mk (nn - 1) b := by
  have h9 : nn ≤ 9 := h.2.2.2.2.2.2.1
  refine h.of tkF_90 (by omega) (fun m hm => tkF_lo (by omega)) (fun m hm => tkF_hi (by omega)) (fun k hk => ?_)
  rcases Nat.lt_or_ge k n with q | q
  · exact noOK_c (fun w hw => tkF_no q hw) (h.2.2.2.2.2.2.2.2.1 k (by omega))
  · have := h.2.2.2.2.2.2.2.2.1 (k + 1) (by omega)
    unfold noOK at this ⊢
    rw [tkF_eq q (by omega) (by omega), tkF_eq q (by omega) (by omega)]
    exact this
theorem WF0.wk {P : Nat → Bool} {mk b : Nat} : ∀ (j : Nat) (f : Nat → Int32) (n c : Nat), j ≤ n → WF0 f mk n b → WF0 (wkI P j f n c).1 mk (wkI P j f n c).2.1 b ∧ (wkI P j f n c).2.1 ≤ n
  | 0, f, n, c, _, h => ⟨h, Nat.le_refl _⟩
  | j + 1, f, n, c, hj, h => by
    rw [wkI]
    split
    · obtain ⟨h1, h2⟩ := WF0.wk (P := P) j (tkF f n j) (n - 1) (c + 1) (by omega) (h.tk (by omega))
      exact ⟨h1, by omega⟩
    · exact WF0.wk j f n c (by omega) h
theorem WF.wkF {P : Nat → Bool} {f : Nat → Int32} {mk n b : Nat} (h : WF f mk n b) : ∃ n', WF (wkF P f n) mk n' b ∧ n' ≤ n := by
  obtain ⟨h1, h2⟩ := WF0.wk (P := P) n f n 0 (Nat.le_refl _) h.w0
  have hnb : n ≤ b := h.2.2.2.2.2.2.1
  exact ⟨_, (h1.cnt _ (by omega) (by omega)).w (by omega), h2⟩
theorem WF0.dr {mk b : Nat} : ∀ (k : Nat) (f : Nat → Int32) (n : Nat), n ≤ k → WF0 f mk n b → ∃ n', WF (drI k f n b) mk n' b ∧ n' ≤ n
  | 0, f, n, hk, h => ⟨n, h.w (by omega), Nat.le_refl _⟩
  | k + 1, f, n, hk, h => by
    rw [drI]
    split
    · obtain ⟨n', h1, h2⟩ := WF0.dr k _ (n - 1) (by omega) ((h.tk (n := 0) (by omega)).cnt (m := 82) (f 82 + 1) (by omega) (by omega))
      exact ⟨n', h1, by omega⟩
    · exact ⟨n, h.w (by omega), Nat.le_refl _⟩
theorem WF.own {f : Nat → Int32} {mk n b p : Nat} {gu : Int32} (h : WF f mk n b) (hp : p < 12) (hg : gu = -6 ∨ ∃ g : Nat, g < 6 ∧ gu = nI g) : WF (up f (4 + p) gu) mk n b := by
  obtain ⟨h1, h2, h3, h4, h5, h6, h7, h8, h9, h10, h11, h12, h13, h14, h15⟩ := h
  have e : ∀ m, m ≠ 4 + p → up f (4 + p) gu m = f m := fun m hm => up_n _ _ hm
  refine ⟨by rw [e _ (by omega)]; exact h1, h2, by rw [e _ (by omega)]; exact h3, by rw [e _ (by omega)]; exact h4, h5, h6, h7, fun s hs => stOK_c (fun w hw => e _ (by omega)) (h8 s hs), fun k hk => noOK_c (fun w hw => e _ (by omega)) (h9 k hk), fun q hq => ?_, fun k hk => by rw [e _ (by omega)]; exact h11 k hk, by rw [e _ (by omega)]; exact h12, by rw [e _ (by omega)]; exact h13, by rw [e _ (by omega)]; exact h14, fun s z1 z2 => by rw [e _ (by omega), e _ (by omega)]; exact h15 s z1 z2⟩
  by_cases hqp : q = p
  · subst hqp; rw [up_s]; exact hg
  · rw [e _ (by omega)]; exact h10 q hq
theorem WF.door {f : Nat → Int32} {mk n b k : Nat} {v : Int32} (h : WF f mk n b) (hk : k < 60) (hg : v = -6 ∨ ∃ s : Nat, s < mk ∧ v = nI s) : WF (up f (16 + k) v) mk n b := by
  obtain ⟨h1, h2, h3, h4, h5, h6, h7, h8, h9, h10, h11, h12, h13, h14, h15⟩ := h
  have e : ∀ m, m ≠ 16 + k → up f (16 + k) v m = f m := fun m hm => up_n _ _ hm
  refine ⟨by rw [e _ (by omega)]; exact h1, h2, by rw [e _ (by omega)]; exact h3, by rw [e _ (by omega)]; exact h4, h5, h6, h7, fun s hs => stOK_c (fun w hw => e _ (by omega)) (h8 s hs), fun k hk => noOK_c (fun w hw => e _ (by omega)) (h9 k hk), fun q hq => by rw [e _ (by omega)]; exact h10 q hq, fun q hq => ?_, by rw [e _ (by omega)]; exact h12, by rw [e _ (by omega)]; exact h13, by rw [e _ (by omega)]; exact h14, fun s z1 z2 => by rw [e _ (by omega), e _ (by omega)]; exact h15 s z1 z2⟩
  by_cases hqp : q = k
  · subst hqp; rw [up_s]; exact hg
  · rw [e _ (by omega)]; exact h11 q hq
theorem WF.take {f : Nat → Int32} {mk n b q : Nat} (h : WF f mk n b) (hq : q < mk) : WF (up f (127 + 7 * q + 6) 1) mk n b := by
  obtain ⟨h1, h2, h3, h4, h5, h6, h7, h8, h9, h10, h11, h12, h13, h14, h15⟩ := h
  have h9b : n ≤ 8 := by omega
  have e : ∀ m, m ≠ 127 + 7 * q + 6 → up f (127 + 7 * q + 6) 1 m = f m := fun m hm => up_n _ _ hm
  exact ⟨by rw [e _ (by omega)]; exact h1, h2, by rw [e _ (by omega)]; exact h3, by rw [e _ (by omega)]; exact h4, h5, h6, h7, fun s hs => stOK_b6 s q (h8 s hs), fun k hk => noOK_c (fun w hw => e _ (by omega)) (h9 k hk), fun q hq => by rw [e _ (by omega)]; exact h10 q hq, fun k hk => by rw [e _ (by omega)]; exact h11 k hk, by rw [e _ (by omega)]; exact h12, by rw [e _ (by omega)]; exact h13, by rw [e _ (by omega)]; exact h14, fun s z1 z2 => by rw [e _ (by omega), e _ (by omega)]; exact h15 s z1 z2⟩
theorem mkF_o {f : Nat → Int32} {mk : Nat} {gv hd pg rt ro fo : Int32} {m : Nat} (h : m ≠ 76) (h2 : m < 127 + 7 * mk ∨ 127 + 7 * mk + 6 < m) : mkF f mk gv hd pg rt ro fo m = f m := by
  unfold mkF
  rw [up_n _ _ h, up_n _ _ (by omega), up_n _ _ (by omega), up_n _ _ (by omega), up_n _ _ (by omega), up_n _ _ (by omega), up_n _ _ (by omega), up_n _ _ (by omega)]
theorem mkF_w {f : Nat → Int32} {mk : Nat} {gv hd pg rt ro fo : Int32} : ofM (mkF f mk gv hd pg rt ro fo) mk 0 = pg ∧ ofM (mkF f mk gv hd pg rt ro fo) mk 1 = gv ∧ ofM (mkF f mk gv hd pg rt ro fo) mk 2 = hd ∧ ofM (mkF f mk gv hd pg rt ro fo) mk 3 = rt ∧ ofM (mkF f mk gv hd pg rt ro fo) mk 4 = ro ∧ ofM (mkF f mk gv hd pg rt ro fo) mk 5 = fo ∧ ofM (mkF f mk gv hd pg rt ro fo) mk 6 = 0 := by
  unfold ofM mkF
  refine ⟨?_, ?_, ?_, ?_, ?_, ?_, ?_⟩
  · rw [show 127 + 0 + 7 * mk = 127 + 7 * mk + 0 from by omega, up_n _ _ (by omega), up_n _ _ (by omega), up_n _ _ (by omega), up_n _ _ (by omega), up_n _ _ (by omega), up_n _ _ (by omega), up_n _ _ (by omega), up_s]
  · rw [show 127 + 1 + 7 * mk = 127 + 7 * mk + 1 from by omega, up_n _ _ (by omega), up_n _ _ (by omega), up_n _ _ (by omega), up_n _ _ (by omega), up_n _ _ (by omega), up_n _ _ (by omega), up_s]
  · rw [show 127 + 2 + 7 * mk = 127 + 7 * mk + 2 from by omega, up_n _ _ (by omega), up_n _ _ (by omega), up_n _ _ (by omega), up_n _ _ (by omega), up_n _ _ (by omega), up_s]
  · rw [show 127 + 3 + 7 * mk = 127 + 7 * mk + 3 from by omega, up_n _ _ (by omega), up_n _ _ (by omega), up_n _ _ (by omega), up_n _ _ (by omega), up_s]
  · rw [show 127 + 4 + 7 * mk = 127 + 7 * mk + 4 from by omega, up_n _ _ (by omega), up_n _ _ (by omega), up_n _ _ (by omega), up_s]
  · rw [show 127 + 5 + 7 * mk = 127 + 7 * mk + 5 from by omega, up_n _ _ (by omega), up_n _ _ (by omega), up_s]
  · rw [show 127 + 6 + 7 * mk = 127 + 7 * mk + 6 from by omega, up_n _ _ (by omega), up_s]
theorem WF.mk {f : Nat → Int32} {mk n b : Nat} {gv hd pg rt ro fo : Int32} (h : WF f mk n b) (hm : mk < 40) (hpg : ∃ p : Nat, p < 12 ∧ pg = nI p) (hgv : ∃ g : Nat, g < 6 ∧ gv = nI g) (hhd : ∃ g : Nat, g < 6 ∧ hd = nI g) (hrt : ∃ r : Nat, r < 8 ∧ rt = nI r)
    (hro : ro = -6 ∨ ∃ r : Nat, r < mk ∧ ro = nI r) (hfo : ∃ b : Bool, fo = b2i b) : WF (mkF f mk gv hd pg rt ro fo) (mk + 1) n b := by
  obtain ⟨h1, h2, h3, h4, h5, h6, h7, h8, h9, h10, h11, h12, h13, h14, h15⟩ := h
  have h9b : n ≤ 8 := by omega
  refine ⟨up_s _ _ _, by omega, by rw [mkF_o (by omega) (by omega)]; exact h3, by rw [mkF_o (by omega) (by omega)]; exact h4, h5, h6, h7, fun s hs => ?_, fun k hk => noOK_c (fun w hw => mkF_o (by omega) (by omega)) (h9 k hk), fun p hp => by rw [mkF_o (by omega) (by omega)]; exact h10 p hp, fun k hk => ?_, by rw [mkF_o (by omega) (by omega)]; exact h12, by rw [mkF_o (by omega) (by omega)]; exact h13, by rw [mkF_o (by omega) (by omega)]; exact h14, fun s z1 z2 => by rw [mkF_o (by omega) (by omega), mkF_o (by omega) (by omega)]; exact h15 s (by omega) z2⟩
  · by_cases hsm : s = mk
    · subst hsm
      obtain ⟨e0, e1, e2, e3, e4, e5, e6⟩ := mkF_w (f := f) (mk := s) (gv := gv) (hd := hd) (pg := pg) (rt := rt) (ro := ro) (fo := fo)
      unfold stOK
      rw [e0, e1, e2, e3, e4, e5, e6]
      exact ⟨hpg, hgv, hhd, hrt, hro, hfo, ⟨false, rfl⟩⟩
    · exact stOK_c (fun w hw => mkF_o (by omega) (by omega)) (h8 s (by omega))
  · rw [mkF_o (by omega) (by omega)]
    rcases h11 k hk with q | ⟨s, q1, q2⟩
    · exact Or.inl q
    · exact Or.inr ⟨s, by omega, q2⟩
theorem pnF_o {f : Nat → Int32} {nn : Nat} {g d e p : Int32} {m : Nat} (h : m ≠ 90) (h2 : m < 91 + 4 * nn ∨ 91 + 4 * nn + 3 < m) : pnF f nn g d e p m = f m := by
  unfold pnF
  rw [up_n _ _ h, up_n _ _ (by omega), up_n _ _ (by omega), up_n _ _ (by omega), up_n _ _ (by omega)]
theorem pnF_w {f : Nat → Int32} {nn : Nat} {g d e p : Int32} : noteM (pnF f nn g d e p) nn 0 = g ∧ noteM (pnF f nn g d e p) nn 1 = d ∧ noteM (pnF f nn g d e p) nn 2 = e ∧ noteM (pnF f nn g d e p) nn 3 = p := by
  unfold noteM pnF
  refine ⟨?_, ?_, ?_, ?_⟩
  · rw [show 91 + 0 + 4 * nn = 91 + 4 * nn from by omega, up_n _ _ (by omega), up_n _ _ (by omega), up_n _ _ (by omega), up_n _ _ (by omega), up_s]
  · rw [show 91 + 1 + 4 * nn = 91 + 4 * nn + 1 from by omega, up_n _ _ (by omega), up_n _ _ (by omega), up_n _ _ (by omega), up_s]
  · rw [show 91 + 2 + 4 * nn = 91 + 4 * nn + 2 from by omega, up_n _ _ (by omega), up_n _ _ (by omega), up_s]
  · rw [show 91 + 3 + 4 * nn = 91 + 4 * nn + 3 from by omega, up_n _ _ (by omega), up_s]
theorem WF0.pn {f : Nat → Int32} {mk n b : Nat} {g d : Nat} {e p : Int32} (h : WF0 f mk n b) (hn : n ≤ 8) (hg : g < 6) (hd : d < 10) : WF0 (pnF f n (nI g) (nI d) e p) mk (n + 1) b := by
  refine h.of (up_s _ _ _) (by omega) (fun m hm => pnF_o (by omega) (by omega)) (fun m hm => pnF_o (by omega) (by omega)) (fun k hk => ?_)
  by_cases hkn : k = n
  · subst hkn
    obtain ⟨e0, e1, -, -⟩ := pnF_w (f := f) (nn := k) (g := nI g) (d := nI d) (e := e) (p := p)
    exact ⟨⟨g, hg, e0⟩, ⟨d, hd, e1⟩⟩
  · exact noOK_c (fun w hw => pnF_o (by omega) (by omega)) (h.2.2.2.2.2.2.2.2.1 k (by omega))
def WFx (f : Nat → Int32) : Prop := ∃ mk n b, WF f mk n b
theorem WF.N {f : Nat → Int32} {mk n b : Nat} (h : WF f mk n b) : mkN f = mk ∧ nN f = n ∧ bN f = b := by
  obtain ⟨h1, h2, h3, h4, h5, h6, h7, -⟩ := h
  unfold mkN nN bN
  rw [h1, h3, h4]
  exact ⟨nI_clamp (by omega), nI_clamp (by omega), nI_clamp (by omega)⟩
theorem own_ok {f : Nat → Int32} {x gu : Int32} (h : WFx f) : WFx (ownS f x gu).2 := by
  obtain ⟨mk, n, b, hW⟩ := h
  obtain ⟨e1, e2, e3⟩ := hW.N
  unfold ownS wipeS
  split
  · rename_i hc
    obtain ⟨hp, hg⟩ := Bool.and_eq_true_iff.mp hc
    obtain ⟨p, hp1, rfl⟩ := rng_nI hp
    rw [nI_clamp (by omega), e2]
    split
    · exact ⟨mk, n, b, hW⟩
    · have hgu : gu = -6 ∨ ∃ g : Nat, g < 6 ∧ gu = nI g := by
        rcases Bool.or_eq_true_iff.mp hg with q | q
        · exact Or.inl (of_decide_eq_true q)
        · exact Or.inr (rng_nI q)
      obtain ⟨n', h1, -⟩ := (hW.own hp1 hgu).wkF (P := goM f (up f (4 + p) gu) (nI p))
      exact ⟨mk, n', b, h1⟩
  · exact ⟨mk, n, b, hW⟩
theorem rt_nI {rt : Int32} (h : rtOK rt = true) : ∃ r : Nat, r < 8 ∧ rt = nI r := by
  obtain ⟨h1, h2⟩ := of_decide_eq_true h
  exact rng_nI (n := 8) (decide_eq_true ⟨by omega, by omega⟩)
theorem stamp_ok {f : Nat → Int32} {gv hd pg rt : Int32} (h : WFx f) : WFx (stampS f gv hd pg rt).2 := by
  obtain ⟨mk, n, b, hW⟩ := h
  obtain ⟨e1, e2, e3⟩ := hW.N
  unfold stampS
  split
  · rename_i hc
    obtain ⟨hg, hc⟩ := Bool.and_eq_true_iff.mp hc
    obtain ⟨hh, hp⟩ := Bool.and_eq_true_iff.mp hc
    split
    · rename_i hr
      rw [e1]
      split
      · exact ⟨mk, n, b, hW⟩
      · rename_i h40
        split
        · have := hW.2.1
          exact ⟨mk + 1, n, b, hW.mk (by omega) (rng_nI hp) (rng_nI hg) (rng_nI hh) (rt_nI hr) (Or.inl rfl) ⟨false, rfl⟩⟩
        · exact ⟨mk, n, b, hW⟩
    · exact ⟨mk, n, b, hW⟩
  · exact ⟨mk, n, b, hW⟩
theorem forge_ok {f : Nat → Int32} {gv hd pg rt ro : Int32} (h : WFx f) : WFx (forgeS f gv hd pg rt ro).2 := by
  obtain ⟨mk, n, b, hW⟩ := h
  obtain ⟨e1, e2, e3⟩ := hW.N
  unfold forgeS
  split
  · rename_i hc
    obtain ⟨hg, hc⟩ := Bool.and_eq_true_iff.mp hc
    obtain ⟨hh, hc⟩ := Bool.and_eq_true_iff.mp hc
    obtain ⟨hp, hro⟩ := Bool.and_eq_true_iff.mp hc
    rw [e1] at hro
    split
    · rename_i hr
      rw [e1]
      split
      · exact ⟨mk, n, b, hW⟩
      · rename_i h40
        have := hW.2.1
        have hro2 : ro = -6 ∨ ∃ g : Nat, g < mk ∧ ro = nI g := by
          rcases Bool.or_eq_true_iff.mp hro with q | q
          · exact Or.inl (of_decide_eq_true q)
          · exact Or.inr (rng_nI q)
        exact ⟨mk + 1, n, b, hW.mk (by omega) (rng_nI hp) (rng_nI hg) (rng_nI hh) (rt_nI hr) hro2 ⟨true, rfl⟩⟩
    · exact ⟨mk, n, b, hW⟩
  · exact ⟨mk, n, b, hW⟩
theorem pass_ok {f : Nat → Int32} {sx hd rt : Int32} (h : WFx f) : WFx (passS f sx hd rt).2 := by
  obtain ⟨mk, n, b, hW⟩ := h
  obtain ⟨e1, e2, e3⟩ := hW.N
  unfold passS
  rw [e1]
  split
  · rename_i hc
    obtain ⟨hs, hh⟩ := Bool.and_eq_true_iff.mp hc
    obtain ⟨q, hq, rfl⟩ := rng_nI hs
    have := hW.2.1
    rw [nI_clamp (by omega)]
    split
    · rename_i hr
      split
      · exact ⟨mk, n, b, hW⟩
      · rename_i h40
        split
        · obtain ⟨hpg, -, hhd, -⟩ := hW.2.2.2.2.2.2.2.1 q hq
          exact ⟨mk + 1, n, b, hW.mk (by omega) hpg hhd (rng_nI hh) (rt_nI hr) (Or.inr ⟨q, hq, rfl⟩) ⟨false, rfl⟩⟩
        · exact ⟨mk, n, b, hW⟩
    · exact ⟨mk, n, b, hW⟩
  · exact ⟨mk, n, b, hW⟩
theorem take_ok {f : Nat → Int32} {sx : Int32} (h : WFx f) : WFx (takeS f sx).2 := by
  obtain ⟨mk, n, b, hW⟩ := h
  obtain ⟨e1, e2, e3⟩ := hW.N
  unfold takeS wipeS
  split
  · rename_i hc
    rw [e1] at hc
    obtain ⟨q0, hq0, eq0⟩ := rng_nI hc
    have h40 := hW.2.1
    have hqm : sx.toNatClampNeg < mk := by rw [eq0, nI_clamp (by omega)]; exact hq0
    split
    · exact ⟨mk, n, b, hW⟩
    · rw [e2]
      obtain ⟨n', h1, -⟩ := (hW.take (q := sx.toNatClampNeg) hqm).wkF (P := goM f (up f (127 + 7 * sx.toNatClampNeg + 6) 1) (ofM f sx.toNatClampNeg 0))
      exact ⟨mk, n', b, h1⟩
  · exact ⟨mk, n, b, hW⟩
theorem door_ok {f : Nat → Int32} {g d sx : Int32} (h : WFx f) : WFx (doorS f g d sx).2 := by
  obtain ⟨mk, n, b, hW⟩ := h
  obtain ⟨e1, e2, e3⟩ := hW.N
  unfold doorS
  rw [e1]
  split
  · rename_i hc
    obtain ⟨hgd, hs⟩ := Bool.and_eq_true_iff.mp hc
    obtain ⟨hg, hd⟩ := Bool.and_eq_true_iff.mp hgd
    obtain ⟨gq, hgq, rfl⟩ := rng_nI hg
    obtain ⟨dq, hdq, rfl⟩ := rng_nI hd
    rw [nI_clamp (by omega), nI_clamp (by omega), e2]
    split
    · exact ⟨mk, n, b, hW⟩
    · have hs2 : sx = -6 ∨ ∃ g : Nat, g < mk ∧ sx = nI g := by
        rcases Bool.or_eq_true_iff.mp hs with q | q
        · exact Or.inl (of_decide_eq_true q)
        · exact Or.inr (rng_nI q)
      have h2 := hW.door (k := 10 * gq + dq) (by omega) hs2
      rw [show 16 + (10 * gq + dq) = 16 + 10 * gq + dq from by omega] at h2
      obtain ⟨n', h1, -⟩ := h2.wkF (P := ofDoor (up f (16 + 10 * gq + dq) sx) (nI gq) (nI dq))
      exact ⟨mk, n', b, h1⟩
  · exact ⟨mk, n, b, hW⟩
theorem wp_ok {f : Nat → Int32} {mk n b : Nat} (hW : WF f mk n b) : WF (wpF f) mk 0 b := by
  have h : WF0 (wpF f) mk 0 b := hW.w0.of (by unfold wpF; rw [up_n _ _ (by omega), up_s]; rfl) (by omega) (fun m hm => by unfold wpF; rw [up_n _ _ (by omega), up_n _ _ (by omega)]) (fun m hm => by unfold wpF; rw [up_n _ _ (by omega), up_n _ _ (by omega)]) (fun k hk => absurd hk (by omega))
  exact h.w (by omega)
theorem cm_ok {f : Nat → Int32} {mk n b : Nat} (hW : WF f mk n b) (g : Int32) : ∃ n', WF (cmF f g) mk n' b := by
  have h1 : WF (up f 78 (f 78 + 1)) mk n b := (hW.w0.cnt _ (by omega) (by omega)).w hW.2.2.2.2.2.2.1
  unfold cmF enF
  split
  · exact ⟨n, h1⟩
  · have h2 : WF (up (up f 78 (f 78 + 1)) 77 g) mk n b := (h1.w0.cnt _ (by omega) (by omega)).w hW.2.2.2.2.2.2.1
    split
    · exact ⟨0, wp_ok h2⟩
    · exact ⟨n, h2⟩
theorem comeW_ok {f : Nat → Int32} {mk n b g d : Nat} {nd : Int32} (hW : WF f mk n b) (hg : g < 6) (hd : d < 10) : WFx (comeW f g d nd).2 := by
  obtain ⟨e1, e2, e3⟩ := hW.N
  have hb8 : n ≤ 8 := by have := hW.2.2.2.2.2.2.1; have := hW.2.2.2.2.2.1; omega
  have hnb : n ≤ b := hW.2.2.2.2.2.2.1
  unfold comeW
  rw [e2, e3]
  split
  · rename_i hk
    obtain ⟨k, hkn, ek⟩ := fndI_in n 0 (Int32.not_lt.mpr hk)
    rw [ek, nI_clamp (by omega)]
    have h1 : WF (seF f) mk n b := (((hW.w0.cnt _ (by omega) (by omega)).cnt _ (by omega) (by omega)).cnt _ (by omega) (by omega)).w hnb
    show WFx (seeF f n k)
    unfold seeF
    split
    · obtain ⟨⟨g1, hg1, eg1⟩, ⟨d1, hd1, ed1⟩⟩ := hW.2.2.2.2.2.2.2.2.1 k (by omega)
      rw [eg1, ed1]
      have h2 := (h1.w0.tk (n := k) (by omega)).pn (e := noteM f k 2) (p := noteM f k 3) (by omega) hg1 hd1
      exact ⟨mk, n - 1 + 1, b, h2.w (by omega)⟩
    · exact ⟨mk, n, b, h1⟩
  · obtain ⟨⟨rr, hrr, err⟩, -⟩ := wlk_le f g d nd
    have h1 : WF (wrF f (wlk f g d nd).1 (wlk f g d nd).2) mk n b := by
      unfold wrF
      rw [err, nI_clamp (by omega)]
      exact ((hW.w0.cnt _ (by omega) (by omega)).cnt _ (by omega) (by omega)).w hnb
    show WFx (if (wlk f g d nd).1 = 0 then _ else _)
    split
    · obtain ⟨n', h2, -⟩ := (h1.w0.pn (e := nd) (p := ofM f (ledM f g d).toNatClampNeg 0) hb8 hg hd).dr (n + 1) _ (n + 1) (Nat.le_refl _)
      exact ⟨mk, n', b, h2⟩
    · exact ⟨mk, n, b, h1⟩
theorem come_ok {f : Nat → Int32} {g d nd : Int32} (h : WFx f) : WFx (comeS f g d nd).2 := by
  obtain ⟨mk, n, b, hW⟩ := h
  unfold comeS
  split
  · rename_i hc
    obtain ⟨hg, hd⟩ := Bool.and_eq_true_iff.mp hc
    obtain ⟨gq, hgq, rfl⟩ := rng_nI hg
    obtain ⟨dq, hdq, rfl⟩ := rng_nI hd
    split
    · rw [nI_clamp (by omega), nI_clamp (by omega)]
      obtain ⟨n', h2⟩ := cm_ok hW (nI gq)
      exact comeW_ok h2 hgq hdq
    · exact ⟨mk, n, b, hW⟩
  · exact ⟨mk, n, b, hW⟩
theorem flush_ok {f : Nat → Int32} (h : WFx f) : WFx (flushS f).2 := by
  obtain ⟨mk, n, b, hW⟩ := h
  exact ⟨mk, 0, b, wp_ok hW⟩
theorem set_ok {f : Nat → Int32} {x v : Int32} (h : WFx f) : WFx (setS f x v).2 := by
  obtain ⟨mk, n, b, hW⟩ := h
  obtain ⟨e1, e2, e3⟩ := hW.N
  unfold setS
  by_cases hc : (rng 4 x && decide ((if x = 0 then (1 : Int) else 0) ≤ v.toInt ∧ v.toInt ≤ (hiS x).toInt)) = true
  · rw [if_pos hc]
    obtain ⟨hx, hv⟩ := Bool.and_eq_true_iff.mp hc
    obtain ⟨q, hq, ex⟩ := rng_nI hx
    have hv := of_decide_eq_true hv
    have hcq : x.toNatClampNeg = q := by rw [ex]; exact nI_clamp (by omega)
    rw [hcq, e2]
    obtain ⟨h1, h2, h3, h4, h5, h6, h7, h8, h9, h10, h11, h12, h13, h14, h15⟩ := id hW
    have hr : ∀ lo hi : Int, ((if x = 0 then (1 : Int) else 0) = lo) → (hiS x).toInt = hi → 0 ≤ lo → hi < 100 → ∃ k : Nat, lo ≤ k ∧ (k : Int) ≤ hi ∧ v = nI k := by
      intro lo hi e1 e2 hl hh
      rw [e1, e2] at hv
      obtain ⟨k, hk, e⟩ := rng_nI (n := 100) (x := v) (decide_eq_true ⟨by omega, by omega⟩)
      subst e
      rw [nI_toInt (by omega)] at hv
      exact ⟨k, by omega, by omega, rfl⟩
    have e : ∀ m, m ≠ q → up f q v m = f m := fun m hm => up_n _ _ hm
    have key : ∃ b', WF0 (up f q v) mk n b' ∧ bN (up f q v) = b' := by
      have fin : ∀ b', (up f q v) 0 = nI b' → 1 ≤ b' → b' ≤ 8 → (up f q v 1 = 0 ∨ up f q v 1 = 1) → (up f q v 2 = 0 ∨ up f q v 2 = 1 ∨ up f q v 2 = 2) → (up f q v 3 = 0 ∨ up f q v 3 = 1) → ∃ b', WF0 (up f q v) mk n b' ∧ bN (up f q v) = b' := by
        intro b' g0 g1 g8 k1 k2 k3
        refine ⟨b', ⟨by rw [e _ (by omega)]; exact h1, h2, by rw [e _ (by omega)]; exact h3, g0, g1, g8, by omega, fun s hs => stOK_c (fun w hw => e _ (by omega)) (h8 s hs), fun k hk => noOK_c (fun w hw => e _ (by omega)) (h9 k hk), fun p hp => by rw [e _ (by omega)]; exact h10 p hp, fun k hk => by rw [e _ (by omega)]; exact h11 k hk, k1, k2, k3, fun s z1 z2 => by rw [e _ (by omega), e _ (by omega)]; exact h15 s z1 z2⟩, ?_⟩
        unfold bN
        rw [g0]
        exact nI_clamp (by omega)
      match q, hq, ex with
      | 0, _, ex =>
        have ex0 : x = 0 := ex
        obtain ⟨k, k1, k2, rfl⟩ := hr 1 8 (if_pos ex0) (by unfold hiS; rw [if_pos ex0]; rfl) (by omega) (by omega)
        exact fin k (up_s _ _ _) (by omega) (by omega) (by rw [up_n _ _ (by omega)]; exact h12) (by rw [up_n _ _ (by omega)]; exact h13) (by rw [up_n _ _ (by omega)]; exact h14)
      | 1, _, ex =>
        have ex1 : x = 1 := ex
        obtain ⟨k, k1, k2, rfl⟩ := hr 0 1 (by rw [ex1]; rfl) (by rw [ex1]; rfl) (by omega) (by omega)
        exact fin b (by rw [up_n _ _ (by omega)]; exact h4) h5 h6 (by rw [up_s]; rcases (show k = 0 ∨ k = 1 by omega) with rfl | rfl; exact Or.inl rfl; exact Or.inr rfl) (by rw [up_n _ _ (by omega)]; exact h13) (by rw [up_n _ _ (by omega)]; exact h14)
      | 2, _, ex =>
        have ex1 : x = 2 := ex
        obtain ⟨k, k1, k2, rfl⟩ := hr 0 2 (by rw [ex1]; rfl) (by rw [ex1]; rfl) (by omega) (by omega)
        exact fin b (by rw [up_n _ _ (by omega)]; exact h4) h5 h6 (by rw [up_n _ _ (by omega)]; exact h12) (by rw [up_s]; rcases (show k = 0 ∨ k = 1 ∨ k = 2 by omega) with rfl | rfl | rfl; exact Or.inl rfl; exact Or.inr (Or.inl rfl); exact Or.inr (Or.inr rfl)) (by rw [up_n _ _ (by omega)]; exact h14)
      | 3, _, ex =>
        have ex1 : x = 3 := ex
        obtain ⟨k, k1, k2, rfl⟩ := hr 0 1 (by rw [ex1]; rfl) (by rw [ex1]; rfl) (by omega) (by omega)
        exact fin b (by rw [up_n _ _ (by omega)]; exact h4) h5 h6 (by rw [up_n _ _ (by omega)]; exact h12) (by rw [up_n _ _ (by omega)]; exact h13) (by rw [up_s]; rcases (show k = 0 ∨ k = 1 by omega) with rfl | rfl; exact Or.inl rfl; exact Or.inr rfl)
    obtain ⟨b', hb', eb'⟩ := key
    rw [eb']
    obtain ⟨n', h1, -⟩ := hb'.dr n _ n (Nat.le_refl _)
    exact ⟨mk, n', b', h1⟩
  · rw [if_neg hc]; exact ⟨mk, n, b, hW⟩
