theorem si_0 : SI 0 f0S := by
  refine ⟨NT_gen nn_f0 (rw4 f0S) (fun t ht => absurd ht (Nat.not_lt_zero t)) (fun t ht => absurd ht (Nat.not_lt_zero t)) (fun s t _ ht => absurd ht (Nat.not_lt_zero t)), fun _ => 0, 0, fun r hr => f0S_hi (by omega), f0S_hi (by omega), Nat.le_refl _, f0S_hi (by omega), Nat.le_refl _⟩
set_option maxHeartbeats 8000000 in
set_option maxRecDepth 100000 in
theorem law_loop (l : Launch) (D : DT) (a : Nat → Nat) {p : Program} {e : Env} {s : State} {m : MethodId} {below : List Frame} {meth : Method} {c : Code} {b L9 : Nat} {xs : Nat → Int32} {A : Nat → Prop} {Q : State → Prop} (hAg : ∀ q, s.heap.size ≤ q → A q) (X : GX p l e room_1 s m #[Value.ref b] below meth c D A 5 code RL wsL_law) (hX : va_X b L9 xs s s.heap) (hbl : b < s.heap.size) (hbA : ¬ A b) (hL9 : L9 ≤ 260) (hend : ∀ (ws : va_W) (cs sl : Nat) (lv : List (Nat × Value)), cs ≤ 600000 → sl ≤ 7302250 → GG p l e room_1 s m #[Value.ref b] below meth c D A 5 false cs sl Q ws 236 lv []) : ∀ (jj k q9 cs9 sl9 : Nat) (hk : k ≤ 50) (hj : 50 - k = jj) (hq9 : q9 ≤ 2 + 3 * k) (hcs : cs9 ≤ 1000 + 112 * k) (hsl : sl9 ≤ 20000 + 2380 * k) (f : Nat → Int32) (na : Nat → Nat → Int32) (w td vl : Nat → Int32) (L pt fl : Nat) (kd : Int32) (kp : Nat) (pq : Nat → Option HH) (hLI : LI k f na td L kp pq), GG p l e room_1 s m #[Value.ref b] below meth c D A 5 false cs9 sl9 Q (wB D a f na w td vl L pt fl kd kp (fqa pq) (fqa (fun _ => none)) (tlW D pq (fun _ => none))) 114 [(4, .int (nI k)), (2, .int (nI q9)), (1, .ref (a 19)), (0, .ref (b))] [] := by
  intro jj
  induction jj using Nat.strongRecOn with
  | _ jj ih =>
  intro k q9 cs9 sl9 hk hj hq9 hcs hsl f na w td vl L pt fl kd kp pq hLI
  obtain ⟨⟨mk, n, b8, hW⟩, hNRx, hF, hS, hL, hch, hkp, l9, hHL⟩ := id hLI
  have hNR := hNRx.to hW
  have hrm0 : cs9 ≤ room_1.cells ∧ sl9 ≤ room_1.slots := ⟨(by omega : cs9 ≤ 600000), (by omega : sl9 ≤ 7302250)⟩
  have hrm1 : cs9 + 112 ≤ room_1.cells ∧ sl9 + 2380 ≤ room_1.slots := ⟨(by omega : cs9 + 112 ≤ 600000), (by omega : sl9 + 2380 ≤ 7302250)⟩
  have hrm2 : cs9 + 144 ≤ room_1.cells ∧ sl9 + 3060 ≤ room_1.slots := ⟨(by omega : cs9 + 144 ≤ 600000), (by omega : sl9 + 3060 ≤ 7302250)⟩
  refine g_iload X dL_law_114 0 rfl rfl ?_
  refine g_bipush (v := (50 : Int32)) X dL_law_116 (by decide) rfl ?_
  refine g_icmp_ge X dL_law_118 213 (by decide) rfl (fun h118 => ?_) (fun h118 => ?_)
  · have i118 := nj_le (a := 50) (b := k) (by omega) (by omega) h118
    refine g_aload_n X dL_law_213 rfl 2 rfl rfl ?_
    refine g_aload_n X dL_law_214 rfl 3 rfl rfl ?_
    refine g_iload_n X dL_law_215 rfl 1 rfl rfl ?_
    refine g_iinc (v := nI (q9 + 1)) X [(2, _), (4, _), (1, _), (0, _)] dL_law_216 1 rfl (nI_add q9 1) (by decide) rfl rfl ?_
    refine g_callSM (n := 2) (As := [_, _]) (rest := [_]) X hX hbl hbA (c_L_cell l D b L9 xs (by omega) (q9) (by omega)) gL_law_L_cell rfl (by decide +kernel) ⟨Nat.le_of_ble_eq_true rfl, Nat.le_of_ble_eq_true rfl⟩ rfl rfl (Nat.le_of_ble_eq_true rfl) dL_law_219 hrm0 rfl (fun v hv => ?_)
    obtain rfl := hv
    refine g_st (st' := [_, _]) rfl ?_
    refine g_callSXs (n := 2) (As := [_, _]) (rest := []) X hAg rfl (c_L_back l D a f na w td vl L pt fl kd kp pq (fun _ => none) mk n b8 hW hNR hF hkp l9 hHL k (by omega) hS hL hch (fun _ _ => rfl) ((cellV xs L9 (q9)))) gL_law_L_back rfl (by decide +kernel) ⟨Nat.le_of_ble_eq_true rfl, Nat.le_of_ble_eq_true rfl⟩ rfl rfl (Nat.le_of_ble_eq_true rfl) dL_law_222 hrm2 rfl (fun v w9 hv => ?_)
    obtain ⟨rfl, naE, wE9, tdE, vlE, LE, ptE, flE, kdE, kpE, pqE, psE, hNE, hADE, rfl⟩ := hv
    refine ⟨hADE, ?_⟩
    refine g_st (st' := [_]) rfl ?_
    have hNRE := hNE.to hW
    refine g_if_eq X dL_law_225 240 (by decide) rfl (fun h225 => absurd h225 (by decide)) (fun h225 => ?_)
    refine g_aload_n X dL_law_228 rfl 2 rfl rfl ?_
    refine g_iconst (v := (5 : Int32)) X dL_law_229 (by decide) rfl ?_
    refine g_callSRX (w0 := []) (n := 2) (As := [_, _]) (rest := []) X (c_L_sound l D a f naE wE9 tdE vlE LE ptE flE kdE kpE (fqa pqE) (fqa psE) (tlW D pqE psE) mk n b8 hW hNRE k (by omega) hS _) gL_law_L_sound rfl (by decide +kernel) ⟨Nat.le_of_ble_eq_true rfl, Nat.le_of_ble_eq_true rfl⟩ rfl rfl rfl (Nat.le_of_ble_eq_true rfl) dL_law_230 hrm2 rfl (fun v hv => ?_)
    obtain rfl := hv
    refine g_st (st' := [_]) rfl ?_
    refine g_if_eq X dL_law_233 240 (by decide) rfl (fun h233 => absurd h233 (by decide)) (fun h233 => ?_)
    exact hend _ _ _ _ (by omega) (by omega)
  · have i118 := nj_nle (a := 50) (b := k) (by omega) (by omega) h118
    refine g_aload_n X dL_law_121 rfl 3 rfl rfl ?_
    refine g_iload_n X dL_law_122 rfl 1 rfl rfl ?_
    refine g_iinc (v := nI (q9 + 1)) X [(2, _), (4, _), (1, _), (0, _)] dL_law_123 1 rfl (nI_add q9 1) (by decide) rfl rfl ?_
    refine g_callSM (n := 2) (As := [_, _]) (rest := []) X hX hbl hbA (c_L_cell l D b L9 xs (by omega) (q9) (by omega)) gL_law_L_cell rfl (by decide +kernel) ⟨Nat.le_of_ble_eq_true rfl, Nat.le_of_ble_eq_true rfl⟩ rfl rfl (Nat.le_of_ble_eq_true rfl) dL_law_126 hrm0 rfl (fun v hv => ?_)
    obtain rfl := hv
    refine g_st (st' := [_]) rfl ?_
    refine g_istore_n X [(3, _), (2, _), (4, _), (1, _), (0, _)] dL_law_129 rfl (by decide) rfl rfl ?_
    refine g_aload_n X dL_law_130 rfl 3 rfl rfl ?_
    have L159 : ∀ (w8 : Int32), GG p l e room_1 s m #[Value.ref b] below meth c D A 5 false cs9 sl9 Q (wB D a f na w td vl L pt fl kd kp (fqa pq) (fqa (fun _ => none)) (tlW D pq (fun _ => none))) 159 [(4, .int (nI k)), (3, .int ((cellV xs L9 (q9)))), (2, .int (nI (q9 + 1))), (1, .ref (a 19)), (0, .ref (b))] [.int (w8), .ref (a 19)] := by
      intro w8
      refine g_aload_n X dL_law_159 rfl 4 rfl rfl ?_
      refine g_iload_n X dL_law_160 rfl 2 rfl rfl ?_
      refine g_callSM (n := 2) (As := [_, _]) (rest := [_, _]) X hX hbl hbA (c_L_cell l D b L9 xs (by omega) ((q9 + 1)) (by omega)) gL_law_L_cell rfl (by decide +kernel) ⟨Nat.le_of_ble_eq_true rfl, Nat.le_of_ble_eq_true rfl⟩ rfl rfl (Nat.le_of_ble_eq_true rfl) dL_law_161 hrm0 rfl (fun v hv => ?_)
      obtain rfl := hv
      refine g_st (st' := [_, _, _]) rfl ?_
      refine g_aload_n X dL_law_164 rfl 4 rfl rfl ?_
      refine g_iload_n X dL_law_165 rfl 2 rfl rfl ?_
      refine g_iinc (v := nI ((q9 + 1) + 1)) X [(2, _), (4, _), (3, _), (1, _), (0, _)] dL_law_166 2 rfl (nI_add (q9 + 1) 1) (by decide) rfl rfl ?_
      refine g_iconst (v := (1 : Int32)) X dL_law_169 (by decide) rfl ?_
      refine g_iadd X dL_law_170 rfl ?_
      refine g_topi (y := nI ((q9 + 1) + 1)) (nI_add (q9 + 1) 1) ?_
      refine g_callSM (n := 2) (As := [_, _]) (rest := [_, _, _]) X hX hbl hbA (c_L_cell l D b L9 xs (by omega) (((q9 + 1) + 1)) (by omega)) gL_law_L_cell rfl (by decide +kernel) ⟨Nat.le_of_ble_eq_true rfl, Nat.le_of_ble_eq_true rfl⟩ rfl rfl (Nat.le_of_ble_eq_true rfl) dL_law_171 hrm0 rfl (fun v hv => ?_)
      obtain rfl := hv
      refine g_st (st' := [_, _, _, _]) rfl ?_
      refine g_callSXs (n := 4) (As := [_, _, _, _]) (rest := []) X hAg rfl (c_L_act l D a f na w td vl L pt fl kd kp pq (fun _ => none) mk n b8 hW hNR hF hkp l9 hHL k (by omega) hS hL hch (w8) ((cellV xs L9 ((q9 + 1)))) ((cellV xs L9 (((q9 + 1) + 1))))) gL_law_L_act rfl (by decide +kernel) ⟨Nat.le_of_ble_eq_true rfl, Nat.le_of_ble_eq_true rfl⟩ rfl rfl (Nat.le_of_ble_eq_true rfl) dL_law_174 hrm1 rfl (fun v w9 hv => ?_)
      obtain ⟨rfl, fB, naB, wB9, tdB, vlB, LB, ptB, flB, kdB, kpB, pqB, hLIB, hADB, rfl⟩ := hv
      refine ⟨hADB, ?_⟩
      refine g_st (st' := [_]) rfl ?_
      obtain ⟨⟨mkB, nB, bB, hWB⟩, hNRxB, hFB, hSB, -, -, -, -⟩ := id hLIB
      have hNRB := hNRxB.to hWB
      refine g_if_ne X dL_law_177 182 (by decide) rfl (fun h177 => ?_) (fun h177 => absurd h177 (by decide))
      refine g_iload X dL_law_182 1 rfl rfl ?_
      refine g_iconst (v := (2 : Int32)) X dL_law_184 (by decide) rfl ?_
      refine g_irem X dL_law_185 (by decide) rfl ?_
      refine g_topi (y := nI (k % 2)) (nI_rem (a := k) (b := 2) (by omega) (by omega)) ?_
      refine g_iconst (v := (1 : Int32)) X dL_law_186 (by decide) rfl ?_
      refine g_icmp_ne X dL_law_187 207 (by decide) rfl (fun h187 => ?_) (fun h187 => ?_)
      · have i187 := nj_ne (a := (k % 2)) (b := 1) (by omega) (by omega) h187
        refine g_iinc (v := nI (k + 1)) X [(4, _), (2, _), (3, _), (1, _), (0, _)] dL_law_207 1 rfl (nI_add k 1) (by decide) rfl rfl ?_
        refine g_goto X dL_law_210 114 (by decide) ?_
        refine g_lv [0, 1, 3, 4] [(4, _), (2, _), (1, _), (0, _)] rfl ?_
        exact ih (50 - (k + 1)) (by omega) (k + 1) _ _ _ (by omega) rfl (by omega) (by omega) (by omega) _ _ _ _ _ _ _ _ _ _ _ hLIB
      · have i187 := nj_eq (a := (k % 2)) (b := 1) (by omega) (by omega) h187
        refine g_aload_n X dL_law_190 rfl 3 rfl rfl ?_
        refine g_aload_n X dL_law_191 rfl 4 rfl rfl ?_
        refine g_iload_n X dL_law_192 rfl 0 rfl rfl ?_
        refine g_iinc (v := nI (((q9 + 1) + 1) + 1)) X [(2, _), (4, _), (3, _), (1, _), (0, _)] dL_law_193 0 rfl (nI_add ((q9 + 1) + 1) 1) (by decide) rfl rfl ?_
        refine g_callSM (n := 2) (As := [_, _]) (rest := [_]) X hX hbl hbA (c_L_cell l D b L9 xs (by omega) (((q9 + 1) + 1)) (by omega)) gL_law_L_cell rfl (by decide +kernel) ⟨Nat.le_of_ble_eq_true rfl, Nat.le_of_ble_eq_true rfl⟩ rfl rfl (Nat.le_of_ble_eq_true rfl) dL_law_196 hrm1 rfl (fun v hv => ?_)
        obtain rfl := hv
        refine g_st (st' := [_, _]) rfl ?_
        refine g_callSRX (w0 := []) (n := 2) (As := [_, _]) (rest := []) X (c_L_sound l D a fB naB wB9 tdB vlB LB ptB flB kdB kpB (fqa pqB) (fqa (fun _ => none)) (tlW D pqB (fun _ => none)) mkB nB bB hWB hNRB (k + 1) (by omega) hSB _) gL_law_L_sound rfl (by decide +kernel) ⟨Nat.le_of_ble_eq_true rfl, Nat.le_of_ble_eq_true rfl⟩ rfl rfl rfl (Nat.le_of_ble_eq_true rfl) dL_law_199 hrm1 rfl (fun v hv => ?_)
        obtain rfl := hv
        refine g_st (st' := [_]) rfl ?_
        refine g_if_ne X dL_law_202 207 (by decide) rfl (fun h202 => ?_) (fun h202 => absurd h202 (by decide))
        refine g_iinc (v := nI (k + 1)) X [(4, _), (2, _), (3, _), (1, _), (0, _)] dL_law_207 1 rfl (nI_add k 1) (by decide) rfl rfl ?_
        refine g_goto X dL_law_210 114 (by decide) ?_
        refine g_lv [0, 1, 3, 4] [(4, _), (2, _), (1, _), (0, _)] rfl ?_
        exact ih (50 - (k + 1)) (by omega) (k + 1) _ _ _ (by omega) rfl (by omega) (by omega) (by omega) _ _ _ _ _ _ _ _ _ _ _ hLIB
    refine g_iload X dL_law_131 2 rfl rfl ?_
    refine g_iconst (v := (2 : Int32)) X dL_law_133 (by decide) rfl ?_
    refine g_icmp_ge X dL_law_134 141 (by decide) rfl (fun h134 => ?_) (fun h134 => ?_)
    · have i134 := nj_le (a := 2) (b := k) (by omega) (by omega) h134
      refine g_iload X dL_law_141 2 rfl rfl ?_
      refine g_bipush (v := (8 : Int32)) X dL_law_143 (by decide) rfl ?_
      refine g_icmp_ge X dL_law_145 158 (by decide) rfl (fun h145 => ?_) (fun h145 => ?_)
      · have i145 := nj_le (a := 8) (b := k) (by omega) (by omega) h145
        refine g_iload_n X dL_law_158 rfl 0 rfl rfl ?_
        refine g_lv [2, 0, 1, 3, 4] [(4, _), (3, _), (2, _), (1, _), (0, _)] rfl ?_
        exact L159 _
      · have i145 := nj_nle (a := 8) (b := k) (by omega) (by omega) h145
        refine g_iconst (v := (4 : Int32)) X dL_law_148 (by decide) rfl ?_
        refine g_iload X dL_law_149 2 rfl rfl ?_
        refine g_bipush (v := (6 : Int32)) X dL_law_151 (by decide) rfl ?_
        refine g_irem X dL_law_153 (by decide) rfl ?_
        refine g_topi (y := nI (k % 6)) (nI_rem (a := k) (b := 6) (by omega) (by omega)) ?_
        refine g_iadd X dL_law_154 rfl ?_
        refine g_topi (y := nI (4 + (k % 6))) (nI_add 4 (k % 6)) ?_
        refine g_goto X dL_law_155 159 (by decide) ?_
        refine g_lv [2, 0, 1, 3, 4] [(4, _), (3, _), (2, _), (1, _), (0, _)] rfl ?_
        exact L159 _
    · have i134 := nj_nle (a := 2) (b := k) (by omega) (by omega) h134
      refine g_iconst (v := (0 : Int32)) X dL_law_137 (by decide) rfl ?_
      refine g_goto X dL_law_138 159 (by decide) ?_
      refine g_lv [2, 0, 1, 3, 4] [(4, _), (3, _), (2, _), (1, _), (0, _)] rfl ?_
      exact L159 _

set_option maxHeartbeats 8000000 in
set_option maxRecDepth 100000 in
theorem law_set (l : Launch) (D : DT) (a : Nat → Nat) {p : Program} {e : Env} {s : State} {m : MethodId} {below : List Frame} {meth : Method} {c : Code} {b L9 : Nat} {xs : Nat → Int32} {A : Nat → Prop} {Q : State → Prop} (hAg : ∀ q, s.heap.size ≤ q → A q) (X : GX p l e room_1 s m #[Value.ref b] below meth c D A 5 code RL wsL_law) (hX : va_X b L9 xs s s.heap) (hbl : b < s.heap.size) (hbA : ¬ A b) (hL9 : L9 ≤ 260) (hend : ∀ (ws : va_W) (cs sl : Nat) (lv : List (Nat × Value)), cs ≤ 600000 → sl ≤ 7302250 → GG p l e room_1 s m #[Value.ref b] below meth c D A 5 false cs sl Q ws 236 lv [])   : GG p l e room_1 s m #[Value.ref b] below meth c D A 5 false 30 460 Q (wB D a f0S na0S (fun _ => 0) (fun _ => 0) (fun _ => 0) 0 0 0 0 0 (fqa (fun _ => none)) (fqa (fun _ => none)) (tlW D (fun _ => none) (fun _ => none))) 10 [(2, .int (0)), (1, .ref (a 19)), (0, .ref (b))] [] := by
  refine g_aload_n X dL_law_10 rfl 1 rfl rfl ?_
  refine g_aload_n X dL_law_11 rfl 2 rfl rfl ?_
  refine g_iload_n X dL_law_12 rfl 0 rfl rfl ?_
  refine g_iinc (v := nI (0 + 1)) X [(2, _), (1, _), (0, _)] dL_law_13 0 rfl (nI_add 0 1) (by decide) rfl rfl ?_
  refine g_callSM (n := 2) (As := [_, _]) (rest := [_]) X hX hbl hbA (c_L_cell l D b L9 xs (by omega) (0) (by omega)) gL_law_L_cell rfl (by decide +kernel) ⟨Nat.le_of_ble_eq_true rfl, Nat.le_of_ble_eq_true rfl⟩ rfl rfl (Nat.le_of_ble_eq_true rfl) dL_law_16 ⟨Nat.le_of_ble_eq_true rfl, Nat.le_of_ble_eq_true rfl⟩ rfl (fun v hv => ?_)
  obtain rfl := hv
  refine g_st (st' := [_, _]) rfl ?_
  refine g_callSXs (n := 2) (As := [_, _]) (rest := []) X hAg rfl (c_L_refused l D a ((cellV xs L9 (0)))) gL_law_L_refused rfl (by decide +kernel) ⟨Nat.le_of_ble_eq_true rfl, Nat.le_of_ble_eq_true rfl⟩ rfl rfl (Nat.le_of_ble_eq_true rfl) dL_law_19 ⟨Nat.le_of_ble_eq_true rfl, Nat.le_of_ble_eq_true rfl⟩ rfl (fun v w9 hv => ?_)
  obtain ⟨rfl, naR, wR, tdR, vlR, ptR, flR, kdR, pqR, hAR, rfl⟩ := hv
  refine ⟨hAR, ?_⟩
  refine g_st (st' := [_]) rfl ?_
  have hHL0 : HL 0 pqR [] := ⟨rfl, fun i hi => absurd hi (Nat.not_lt_zero i)⟩
  refine g_if_ne X dL_law_22 27 (by decide) rfl (fun h22 => ?_) (fun h22 => absurd h22 (by decide))
  refine g_aload_n X dL_law_27 rfl 2 rfl rfl ?_
  refine g_iload_n X dL_law_28 rfl 0 rfl rfl ?_
  refine g_iinc (v := nI ((0 + 1) + 1)) X [(2, _), (1, _), (0, _)] dL_law_29 0 rfl (nI_add (0 + 1) 1) (by decide) rfl rfl ?_
  refine g_callSM (n := 2) (As := [_, _]) (rest := []) X hX hbl hbA (c_L_cell l D b L9 xs (by omega) ((0 + 1)) (by omega)) gL_law_L_cell rfl (by decide +kernel) ⟨Nat.le_of_ble_eq_true rfl, Nat.le_of_ble_eq_true rfl⟩ rfl rfl (Nat.le_of_ble_eq_true rfl) dL_law_32 ⟨Nat.le_of_ble_eq_true rfl, Nat.le_of_ble_eq_true rfl⟩ rfl (fun v hv => ?_)
  obtain rfl := hv
  refine g_st (st' := [_]) rfl ?_
  refine g_istore_n X [(3, _), (2, _), (1, _), (0, _)] dL_law_35 rfl (by decide) rfl rfl ?_
  refine g_aload_n X dL_law_36 rfl 2 rfl rfl ?_
  refine g_iconst (v := (0 : Int32)) X dL_law_37 (by decide) rfl ?_
  refine g_iconst (v := (1 : Int32)) X dL_law_38 (by decide) rfl ?_
  refine g_iload_n X dL_law_39 rfl 0 rfl rfl ?_
  refine g_bipush (v := (8 : Int32)) X dL_law_40 (by decide) rfl ?_
  refine g_callSR (n := 2) (As := [_, _]) (rest := [_, _, _]) X (c_L_up l D ((cellV xs L9 ((0 + 1)))) 8 (by omega)) gL_law_L_up rfl (by decide +kernel) ⟨Nat.le_of_ble_eq_true rfl, Nat.le_of_ble_eq_true rfl⟩ [] rfl rfl rfl rfl (Nat.le_of_ble_eq_true rfl) dL_law_42 ⟨Nat.le_of_ble_eq_true rfl, Nat.le_of_ble_eq_true rfl⟩ rfl (fun v hv => ?_)
  obtain rfl := hv
  refine g_st (st' := [_, _, _, _]) rfl ?_
  refine g_upn (by omega) (fun u42 hu42 eu42 => ?_)
  refine g_iadd X dL_law_45 rfl ?_
  refine g_topi (y := nI (1 + u42)) (nI_add 1 u42) ?_
  refine g_callVXs (n := 2) (As := [_, _]) (rest := []) X hAg rfl (c_X6_set l D a f0S naR wR tdR vlR 0 ptR flR kdR 0 pqR (fun _ => none) 0 0 4 f0_WF (NR_0 _ _) f0_FB (Nat.zero_le _) hHL0.hq _ _) gL_law_X6_set rfl (by decide +kernel) ⟨Nat.le_of_ble_eq_true rfl, Nat.le_of_ble_eq_true rfl⟩ 20 rfl rfl rfl rfl (Nat.le_of_ble_eq_true rfl) dL_law_46 ⟨Nat.le_of_ble_eq_true rfl, Nat.le_of_ble_eq_true rfl⟩ rfl (fun v w9 hv => ?_)
  obtain ⟨rfl, fA, naA, wA, kpA, pqA, efA, hNA, hAA, hkpA, hHLA, ekA, rfl⟩ := ch_out hv (Nat.zero_le _) hHL0 f0_FB ⟨_, (NR_0 _ _), (f0S_hi (by omega))⟩
  have hADA := hAA.trans hAR
  refine ⟨hAA, ?_⟩
  refine g_st (st' := [_]) rfl ?_
  obtain ⟨hrxA, hWzA, hSA, -, -, -, hoA⟩ := set_chg (x := 0) (v := (1 + u42)) (b2 := (1 + u42)) f0_WF si_0 (by omega) (by omega) (by omega) efA
  obtain ⟨nA, enA⟩ : ∃ z, min 0 (1 + u42) = z := ⟨_, rfl⟩
  rw [enA] at hWzA
  have hWA := hWzA
  have hrA : (setS f0S 0 (nI (1 + u42))).1 = (4 : Int32) := hrxA.trans ((rfl : f0S 0 = 4))
  refine g_topi (hrA) ?_
  have hNRA := hNA.to hWA
  have hFA : FB fA := by rw [efA]; exact set_fb ⟨0, 0, 4, f0_WF⟩ f0_FB
  obtain ⟨hmkA, hm40A, hn8A, hb0A, hb0A1, hb0A8, hn8Ab, hstA, hnoA, howA, hdoA, hb0Aa, hb0Ac, hb0Ad, hb0Az⟩ := id hWA
  have hm8A : nA ≤ 8 := by omega
  obtain ⟨eN1A, eN2A, -⟩ := hWA.N
  refine g_iconst (v := (4 : Int32)) X dL_law_49 (by decide) rfl ?_
  refine g_icmp_ne X dL_law_50 109 (by decide) rfl (fun h50 => absurd h50 (by decide)) (fun h50 => ?_)
  refine g_aload_n X dL_law_53 rfl 2 rfl rfl ?_
  refine g_iconst (v := (1 : Int32)) X dL_law_54 (by decide) rfl ?_
  refine g_iload_n X dL_law_55 rfl 0 rfl rfl ?_
  refine g_iconst (v := (3 : Int32)) X dL_law_56 (by decide) rfl ?_
  refine g_ishr X dL_law_57 rfl ?_
  refine g_iconst (v := (3 : Int32)) X dL_law_58 (by decide) rfl ?_
  refine g_callSR (n := 2) (As := [_, _]) (rest := [_, _]) X (c_L_up l D (((cellV xs L9 ((0 + 1))) >>> ((3 : Int32) &&& 31))) 3 (by omega)) gL_law_L_up rfl (by decide +kernel) ⟨Nat.le_of_ble_eq_true rfl, Nat.le_of_ble_eq_true rfl⟩ [] rfl rfl rfl rfl (Nat.le_of_ble_eq_true rfl) dL_law_59 ⟨Nat.le_of_ble_eq_true rfl, Nat.le_of_ble_eq_true rfl⟩ rfl (fun v hv => ?_)
  obtain rfl := hv
  refine g_st (st' := [_, _, _]) rfl ?_
  refine g_upn (by omega) (fun u59 hu59 eu59 => ?_)
  have L70 : ∀ (sv1 : Nat) (hsv1 : sv1 ≤ 1), GG p l e room_1 s m #[Value.ref b] below meth c D A 5 false 446 8800 Q (wB D a fA naA wA tdR vlR 0 ptR flR kdR kpA (fqa pqA) (fqa (fun _ => none)) (tlW D pqA (fun _ => none))) 70 [(3, .int ((cellV xs L9 (0 + 1)))), (2, .int (nI (0 + 1 + 1))), (1, .ref (a 19)), (0, .ref (b))] [.int (nI sv1), .int (1), .ref (a 19)] := by
    intro sv1 hsv1
    refine g_callVXs (n := 2) (As := [_, _]) (rest := []) X hAg rfl (c_X6_set l D a fA naA wA tdR vlR 0 ptR flR kdR kpA pqA (fun _ => none) 0 nA (1 + u42) hWA hNRA hFA hkpA hHLA.hq _ _) gL_law_X6_set rfl (by decide +kernel) ⟨Nat.le_of_ble_eq_true rfl, Nat.le_of_ble_eq_true rfl⟩ 20 rfl rfl rfl rfl (Nat.le_of_ble_eq_true rfl) dL_law_70 ⟨Nat.le_of_ble_eq_true rfl, Nat.le_of_ble_eq_true rfl⟩ rfl (fun v w9 hv => ?_)
    obtain ⟨rfl, fB, naB, wB, kpB, pqB, efB, hNB, hAB, hkpB, hHLB, ekB, rfl⟩ := ch_out hv hkpA hHLA hFA ⟨_, hNRA, hn8A⟩
    have hADB := hAB.trans hADA
    refine ⟨hAB, ?_⟩
    refine g_st (st' := [_]) rfl ?_
    obtain ⟨hrxB, hWzB, hSB, -, -, -, hoB⟩ := set_chg (x := 1) (v := sv1) (b2 := (1 + u42)) hWA hSA (by omega) (by omega) (by omega) efB
    obtain ⟨nB, enB⟩ : ∃ z, min nA (1 + u42) = z := ⟨_, rfl⟩
    rw [enB] at hWzB
    have hWB := hWzB
    have hrB : (setS fA 1 (nI sv1)).1 = (1 : Int32) := hrxB.trans ((hoA 1 (by omega) (by omega)).trans (rfl : f0S 1 = 1))
    refine g_topi (hrB) ?_
    have hNRB := hNB.to hWB
    have hFB : FB fB := by rw [efB]; exact set_fb ⟨0, nA, (1 + u42), hWA⟩ hFA
    obtain ⟨hmkB, hm40B, hn8B, hb0B, hb0B1, hb0B8, hn8Bb, hstB, hnoB, howB, hdoB, hb0Ba, hb0Bc, hb0Bd, hb0Bz⟩ := id hWB
    have hm8B : nB ≤ 8 := by omega
    obtain ⟨eN1B, eN2B, -⟩ := hWB.N
    refine g_iconst (v := (1 : Int32)) X dL_law_73 (by decide) rfl ?_
    refine g_icmp_ne X dL_law_74 109 (by decide) rfl (fun h74 => absurd h74 (by decide)) (fun h74 => ?_)
    refine g_aload_n X dL_law_77 rfl 2 rfl rfl ?_
    refine g_iconst (v := (2 : Int32)) X dL_law_78 (by decide) rfl ?_
    refine g_iload_n X dL_law_79 rfl 0 rfl rfl ?_
    refine g_iconst (v := (5 : Int32)) X dL_law_80 (by decide) rfl ?_
    refine g_ishr X dL_law_81 rfl ?_
    refine g_iconst (v := (3 : Int32)) X dL_law_82 (by decide) rfl ?_
    refine g_callSR (n := 2) (As := [_, _]) (rest := [_, _]) X (c_L_up l D (((cellV xs L9 (0 + 1)) >>> ((5 : Int32) &&& 31))) 3 (by omega)) gL_law_L_up rfl (by decide +kernel) ⟨Nat.le_of_ble_eq_true rfl, Nat.le_of_ble_eq_true rfl⟩ [] rfl rfl rfl rfl (Nat.le_of_ble_eq_true rfl) dL_law_83 ⟨Nat.le_of_ble_eq_true rfl, Nat.le_of_ble_eq_true rfl⟩ rfl (fun v hv => ?_)
    obtain rfl := hv
    refine g_st (st' := [_, _, _]) rfl ?_
    refine g_upn (by omega) (fun u83 hu83 eu83 => ?_)
    refine g_callVXs (n := 2) (As := [_, _]) (rest := []) X hAg rfl (c_X6_set l D a fB naB wB tdR vlR 0 ptR flR kdR kpB pqB (fun _ => none) 0 nB (1 + u42) hWB hNRB hFB hkpB hHLB.hq _ _) gL_law_X6_set rfl (by decide +kernel) ⟨Nat.le_of_ble_eq_true rfl, Nat.le_of_ble_eq_true rfl⟩ 20 rfl rfl rfl rfl (Nat.le_of_ble_eq_true rfl) dL_law_86 ⟨Nat.le_of_ble_eq_true rfl, Nat.le_of_ble_eq_true rfl⟩ rfl (fun v w9 hv => ?_)
    obtain ⟨rfl, fC, naC, wC, kpC, pqC, efC, hNC, hAC, hkpC, hHLC, ekC, rfl⟩ := ch_out hv hkpB hHLB hFB ⟨_, hNRB, hn8B⟩
    have hADC := hAC.trans hADB
    refine ⟨hAC, ?_⟩
    refine g_st (st' := [_]) rfl ?_
    obtain ⟨hrxC, hWzC, hSC, -, -, -, hoC⟩ := set_chg (x := 2) (v := u83) (b2 := (1 + u42)) hWB hSB (by omega) (by omega) (by omega) efC
    obtain ⟨nC, enC⟩ : ∃ z, min nB (1 + u42) = z := ⟨_, rfl⟩
    rw [enC] at hWzC
    have hWC := hWzC
    have hrC : (setS fB 2 (nI u83)).1 = (2 : Int32) := hrxC.trans ((hoB 2 (by omega) (by omega)).trans ((hoA 2 (by omega) (by omega)).trans (rfl : f0S 2 = 2)))
    refine g_topi (hrC) ?_
    have hNRC := hNC.to hWC
    have hFC : FB fC := by rw [efC]; exact set_fb ⟨0, nB, (1 + u42), hWB⟩ hFB
    obtain ⟨hmkC, hm40C, hn8C, hb0C, hb0C1, hb0C8, hn8Cb, hstC, hnoC, howC, hdoC, hb0Ca, hb0Cc, hb0Cd, hb0Cz⟩ := id hWC
    have hm8C : nC ≤ 8 := by omega
    obtain ⟨eN1C, eN2C, -⟩ := hWC.N
    refine g_iconst (v := (2 : Int32)) X dL_law_89 (by decide) rfl ?_
    refine g_icmp_ne X dL_law_90 109 (by decide) rfl (fun h90 => absurd h90 (by decide)) (fun h90 => ?_)
    refine g_aload_n X dL_law_93 rfl 2 rfl rfl ?_
    refine g_iconst (v := (3 : Int32)) X dL_law_94 (by decide) rfl ?_
    refine g_iload_n X dL_law_95 rfl 0 rfl rfl ?_
    refine g_bipush (v := (7 : Int32)) X dL_law_96 (by decide) rfl ?_
    refine g_ishr X dL_law_98 rfl ?_
    refine g_iconst (v := (2 : Int32)) X dL_law_99 (by decide) rfl ?_
    refine g_callSR (n := 2) (As := [_, _]) (rest := [_, _]) X (c_L_up l D (((cellV xs L9 (0 + 1)) >>> ((7 : Int32) &&& 31))) 2 (by omega)) gL_law_L_up rfl (by decide +kernel) ⟨Nat.le_of_ble_eq_true rfl, Nat.le_of_ble_eq_true rfl⟩ [] rfl rfl rfl rfl (Nat.le_of_ble_eq_true rfl) dL_law_100 ⟨Nat.le_of_ble_eq_true rfl, Nat.le_of_ble_eq_true rfl⟩ rfl (fun v hv => ?_)
    obtain rfl := hv
    refine g_st (st' := [_, _, _]) rfl ?_
    refine g_upn (by omega) (fun u100 hu100 eu100 => ?_)
    refine g_callVXs (n := 2) (As := [_, _]) (rest := []) X hAg rfl (c_X6_set l D a fC naC wC tdR vlR 0 ptR flR kdR kpC pqC (fun _ => none) 0 nC (1 + u42) hWC hNRC hFC hkpC hHLC.hq _ _) gL_law_X6_set rfl (by decide +kernel) ⟨Nat.le_of_ble_eq_true rfl, Nat.le_of_ble_eq_true rfl⟩ 20 rfl rfl rfl rfl (Nat.le_of_ble_eq_true rfl) dL_law_103 ⟨Nat.le_of_ble_eq_true rfl, Nat.le_of_ble_eq_true rfl⟩ rfl (fun v w9 hv => ?_)
    obtain ⟨rfl, fD, naD, wD, kpD, pqD, efD, hND, hAD, hkpD, hHLD, ekD, rfl⟩ := ch_out hv hkpC hHLC hFC ⟨_, hNRC, hn8C⟩
    have hADD := hAD.trans hADC
    refine ⟨hAD, ?_⟩
    refine g_st (st' := [_]) rfl ?_
    obtain ⟨hrxD, hWzD, hSD, -, -, -, hoD⟩ := set_chg (x := 3) (v := u100) (b2 := (1 + u42)) hWC hSC (by omega) (by omega) (by omega) efD
    obtain ⟨nD, enD⟩ : ∃ z, min nC (1 + u42) = z := ⟨_, rfl⟩
    rw [enD] at hWzD
    have hWD := hWzD
    have hrD : (setS fC 3 (nI u100)).1 = (0 : Int32) := hrxD.trans ((hoC 3 (by omega) (by omega)).trans ((hoB 3 (by omega) (by omega)).trans ((hoA 3 (by omega) (by omega)).trans (rfl : f0S 3 = 0))))
    refine g_topi (hrD) ?_
    have hNRD := hND.to hWD
    have hFD : FB fD := by rw [efD]; exact set_fb ⟨0, nC, (1 + u42), hWC⟩ hFC
    obtain ⟨hmkD, hm40D, hn8D, hb0D, hb0D1, hb0D8, hn8Db, hstD, hnoD, howD, hdoD, hb0Da, hb0Dc, hb0Dd, hb0Dz⟩ := id hWD
    have hm8D : nD ≤ 8 := by omega
    obtain ⟨eN1D, eN2D, -⟩ := hWD.N
    refine g_if_eq X dL_law_106 111 (by decide) rfl (fun h106 => ?_) (fun h106 => absurd h106 (by decide))
    refine g_iconst (v := (0 : Int32)) X dL_law_111 (by decide) rfl ?_
    refine g_istore X [(4, _), (3, _), (2, _), (1, _), (0, _)] dL_law_112 (by decide) rfl rfl ?_
    refine g_lv [0, 2, 3, 4] [(4, .int (nI 0)), (2, .int (nI 2)), (1, .ref (a 19)), (0, .ref b)] rfl ?_
    exact law_loop l D a hAg X hX hbl hbA hL9 hend 50 0 2 _ _ (by omega) rfl (by omega) (Nat.le_of_ble_eq_true rfl) (Nat.le_of_ble_eq_true rfl) _ _ _ _ _ _ _ _ _ _ _ ⟨⟨_, _, _, hWD⟩, ⟨_, hNRD, hn8D⟩, hFD, hSD, Nat.zero_le _, (fun k hk => absurd hk (Nat.not_lt_zero k)), hkpD, _, hHLD⟩
  refine g_if_ne X dL_law_62 69 (by decide) rfl (fun h62 => ?_) (fun h62 => ?_)
  · have i62 := nj_ne (a := u59) (b := 0) (by omega) (by omega) h62
    refine g_iconst (v := (1 : Int32)) X dL_law_69 (by decide) rfl ?_
    exact L70 1 (by omega)
  · have i62 := nj_eq (a := u59) (b := 0) (by omega) (by omega) h62
    refine g_iconst (v := (0 : Int32)) X dL_law_65 (by decide) rfl ?_
    refine g_goto X dL_law_66 70 (by decide) ?_
    exact L70 0 (by omega)
