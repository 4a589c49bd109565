set_option maxHeartbeats 4000000 in
set_option maxRecDepth 100000 in
theorem law_0 (l : Launch) {p : Program} {e : Env} {s : State} {m : MethodId} {b : Nat} {below : List Frame} {meth : Method} {c : Code} {D : DT} {A : Nat → Prop} {cs sl : Nat} {Q : State → Prop} {a a2 : Nat → Nat} {xs : Nat → Int32} {L i : Nat} (hG : GX p l e room_1 s m #[Value.ref b] below meth c D A 4 code RL wsL_law) (hAg : ∀ q, s.heap.size ≤ q → A q) (hX : va_X b L xs s s.heap) (hbl : b < s.heap.size) (hbA : ¬ A b) (hL : L ≤ 3072) (hi : i + 6 ≤ L) (hcs : cs + 18 ≤ 600000) (hsl : sl + 420 ≤ 7302250) (f : Nat → Int32) (na : Nat → Nat → Int32) (w td vl : Nat → Int32) (Lp pt fl : Nat) (kd : Int32) (kp : Nat) (pq ps : Nat → Option HH) (fp fs fv fg fw ft fn : Nat → Int32) (i1 : Nat) (wk sp iw od : Int32) (sv : Nat → Bool) (hI : INV f na td Lp kp kp pq ps fp fs fv i1 sv)
    (hback : LGO p l e s m b below meth c D A a a2 (cs + 18) (sl + 420) Q i) : GG p l e room_1 s m #[Value.ref b] below meth c D A 4 false cs sl Q (wL D a a2 f na w td vl Lp pt fl kd kp kp pq ps fp fs fv fg fw ft fn i1 wk sp iw od) 152 [(0, .ref b), (1, .ref (a 19)), (2, .ref (a2 0)), (3, .int (nI i))] [] := by
  obtain ⟨hx, hNx, hF, hLp, hch, hkp, -, hi1, hpast, hslot, hsv⟩ := id hI
  obtain ⟨mk, n, b8, hW⟩ := id hx
  have hNR := hNx.to hW
  have hn8 : n ≤ 8 := Nat.le_trans hW.2.2.2.2.2.2.1 hW.2.2.2.2.2.1
  refine g_aload_n hG dL_law_152 rfl 1 rfl rfl ?_
  refine g_aload_n hG dL_law_153 rfl 0 rfl rfl ?_
  refine g_iload_n hG dL_law_154 rfl 3 rfl rfl ?_
  refine g_iconst (v := (1 : Int32)) hG dL_law_155 (by decide) rfl ?_
  refine g_iadd hG dL_law_156 rfl ?_
  refine g_topi (y := nI (i + 1)) (nI_add (i) (1)) ?_
  refine g_sld (k := (i + 1)) hG hX hbl hbA dL_law_157 rfl (by omega) (by omega) rfl ?_
  refine g_aload_n hG dL_law_158 rfl 0 rfl rfl ?_
  refine g_iload_n hG dL_law_159 rfl 3 rfl rfl ?_
  refine g_iconst (v := (2 : Int32)) hG dL_law_160 (by decide) rfl ?_
  refine g_iadd hG dL_law_161 rfl ?_
  refine g_topi (y := nI (i + 2)) (nI_add (i) (2)) ?_
  refine g_sld (k := (i + 2)) hG hX hbl hbA dL_law_162 rfl (by omega) (by omega) rfl ?_
  refine g_callVX (n := 2) (As := [_, _]) (rest := []) hG hAg rfl (c_X6_set l D a f na w td vl Lp pt fl kd kp pq ps mk n b8 hW hNR hF hkp hpast.hqs (xs (i + 1)) (xs (i + 2))) gL_law_X6_set rfl (by decide +kernel) ⟨Nat.le_of_ble_eq_true rfl, Nat.le_of_ble_eq_true rfl⟩ 20 rfl rfl rfl rfl rfl (Nat.le_of_ble_eq_true rfl) dL_law_163 ⟨by show _ ≤ 600000; omega, by show _ ≤ 7302250; omega⟩ rfl (fun v w9 hv => ?_)
  obtain ⟨rfl, b9, nb, n', w', hAD, hN9, h909, rfl⟩ := hv
  refine ⟨hAD, ?_⟩
  refine g_st (st' := [_]) rfl ?_
  refine g_aload_n hG dL_law_166 rfl 2 rfl rfl ?_
  refine g_aload_n hG dL_law_167 rfl 0 rfl rfl ?_
  refine g_iload_n hG dL_law_168 rfl 3 rfl rfl ?_
  refine g_iconst (v := (1 : Int32)) hG dL_law_169 (by decide) rfl ?_
  refine g_iadd hG dL_law_170 rfl ?_
  refine g_topi (y := nI (i + 1)) (nI_add (i) (1)) ?_
  refine g_sld (k := (i + 1)) hG hX hbl hbA dL_law_171 rfl (by omega) (by omega) rfl ?_
  refine g_aload_n hG dL_law_172 rfl 0 rfl rfl ?_
  refine g_iload_n hG dL_law_173 rfl 3 rfl rfl ?_
  refine g_iconst (v := (2 : Int32)) hG dL_law_174 (by decide) rfl ?_
  refine g_iadd hG dL_law_175 rfl ?_
  refine g_topi (y := nI (i + 2)) (nI_add (i) (2)) ?_
  refine g_sld (k := (i + 2)) hG hX hbl hbA dL_law_176 rfl (by omega) (by omega) rfl ?_
  refine g_callVWp (n := 2) (As := [_, _]) (rest := [_]) hG hAg rfl (c_X7_set l D a2 f fp fs fv fg fw td ft fn wk (nI Lp) sp iw od i1 kp hi1 hkp mk n b8 hW (xs (i + 1)) (xs (i + 2))) gL_law_X7_set rfl (by decide +kernel) ⟨Nat.le_of_ble_eq_true rfl, Nat.le_of_ble_eq_true rfl⟩ 0 rfl rfl rfl rfl rfl (Nat.le_of_ble_eq_true rfl) dL_law_177 ⟨by show _ ≤ 600000; omega, by show _ ≤ 7302250; omega⟩ rfl (fun v w9 hv => ?_)
  obtain ⟨fg', fw', wk', rfl, rfl⟩ := hv
  refine ⟨rfl, ?_⟩
  refine g_st (st' := [_, _]) rfl ?_
  refine g_icmp_eq hG dL_law_180 941 (by decide) rfl (fun _ => ?_) (fun h => absurd rfl h)
  refine g_widen (cs + 18) (sl + 420) (by omega) (by omega) ?_
  exact hback _ _ _ _ _ _ _ _ _ _ _ _ _ _ _ _ _ _ _ _ _ _ _ _ _ _ (inv_ch hI (set_ok hx) (set_fb hx hF) ⟨n', hN9, h909⟩)

set_option maxHeartbeats 4000000 in
set_option maxRecDepth 100000 in
theorem law_1 (l : Launch) {p : Program} {e : Env} {s : State} {m : MethodId} {b : Nat} {below : List Frame} {meth : Method} {c : Code} {D : DT} {A : Nat → Prop} {cs sl : Nat} {Q : State → Prop} {a a2 : Nat → Nat} {xs : Nat → Int32} {L i : Nat} (hG : GX p l e room_1 s m #[Value.ref b] below meth c D A 4 code RL wsL_law) (hAg : ∀ q, s.heap.size ≤ q → A q) (hX : va_X b L xs s s.heap) (hbl : b < s.heap.size) (hbA : ¬ A b) (hL : L ≤ 3072) (hi : i + 6 ≤ L) (hcs : cs + 18 ≤ 600000) (hsl : sl + 420 ≤ 7302250) (f : Nat → Int32) (na : Nat → Nat → Int32) (w td vl : Nat → Int32) (Lp pt fl : Nat) (kd : Int32) (kp : Nat) (pq ps : Nat → Option HH) (fp fs fv fg fw ft fn : Nat → Int32) (i1 : Nat) (wk sp iw od : Int32) (sv : Nat → Bool) (hI : INV f na td Lp kp kp pq ps fp fs fv i1 sv)
    (hback : LGO p l e s m b below meth c D A a a2 (cs + 18) (sl + 420) Q i) : GG p l e room_1 s m #[Value.ref b] below meth c D A 4 false cs sl Q (wL D a a2 f na w td vl Lp pt fl kd kp kp pq ps fp fs fv fg fw ft fn i1 wk sp iw od) 185 [(0, .ref b), (1, .ref (a 19)), (2, .ref (a2 0)), (3, .int (nI i))] [] := by
  obtain ⟨hx, hNx, hF, hLp, hch, hkp, -, hi1, hpast, hslot, hsv⟩ := id hI
  obtain ⟨mk, n, b8, hW⟩ := id hx
  have hNR := hNx.to hW
  have hn8 : n ≤ 8 := Nat.le_trans hW.2.2.2.2.2.2.1 hW.2.2.2.2.2.1
  refine g_aload_n hG dL_law_185 rfl 1 rfl rfl ?_
  refine g_aload_n hG dL_law_186 rfl 0 rfl rfl ?_
  refine g_iload_n hG dL_law_187 rfl 3 rfl rfl ?_
  refine g_iconst (v := (1 : Int32)) hG dL_law_188 (by decide) rfl ?_
  refine g_iadd hG dL_law_189 rfl ?_
  refine g_topi (y := nI (i + 1)) (nI_add (i) (1)) ?_
  refine g_sld (k := (i + 1)) hG hX hbl hbA dL_law_190 rfl (by omega) (by omega) rfl ?_
  refine g_aload_n hG dL_law_191 rfl 0 rfl rfl ?_
  refine g_iload_n hG dL_law_192 rfl 3 rfl rfl ?_
  refine g_iconst (v := (2 : Int32)) hG dL_law_193 (by decide) rfl ?_
  refine g_iadd hG dL_law_194 rfl ?_
  refine g_topi (y := nI (i + 2)) (nI_add (i) (2)) ?_
  refine g_sld (k := (i + 2)) hG hX hbl hbA dL_law_195 rfl (by omega) (by omega) rfl ?_
  refine g_callVX (n := 2) (As := [_, _]) (rest := []) hG hAg rfl (c_X6_own l D a f na w td vl Lp pt fl kd kp pq ps mk n b8 hW hNR hF hkp hpast.hqs (xs (i + 1)) (xs (i + 2))) gL_law_X6_own rfl (by decide +kernel) ⟨Nat.le_of_ble_eq_true rfl, Nat.le_of_ble_eq_true rfl⟩ 20 rfl rfl rfl rfl rfl (Nat.le_of_ble_eq_true rfl) dL_law_196 ⟨by show _ ≤ 600000; omega, by show _ ≤ 7302250; omega⟩ rfl (fun v w9 hv => ?_)
  obtain ⟨rfl, b9, nb, n', w', hAD, hN9, h909, rfl⟩ := hv
  refine ⟨hAD, ?_⟩
  refine g_st (st' := [_]) rfl ?_
  refine g_aload_n hG dL_law_199 rfl 2 rfl rfl ?_
  refine g_aload_n hG dL_law_200 rfl 0 rfl rfl ?_
  refine g_iload_n hG dL_law_201 rfl 3 rfl rfl ?_
  refine g_iconst (v := (1 : Int32)) hG dL_law_202 (by decide) rfl ?_
  refine g_iadd hG dL_law_203 rfl ?_
  refine g_topi (y := nI (i + 1)) (nI_add (i) (1)) ?_
  refine g_sld (k := (i + 1)) hG hX hbl hbA dL_law_204 rfl (by omega) (by omega) rfl ?_
  refine g_aload_n hG dL_law_205 rfl 0 rfl rfl ?_
  refine g_iload_n hG dL_law_206 rfl 3 rfl rfl ?_
  refine g_iconst (v := (2 : Int32)) hG dL_law_207 (by decide) rfl ?_
  refine g_iadd hG dL_law_208 rfl ?_
  refine g_topi (y := nI (i + 2)) (nI_add (i) (2)) ?_
  refine g_sld (k := (i + 2)) hG hX hbl hbA dL_law_209 rfl (by omega) (by omega) rfl ?_
  refine g_callVWp (n := 2) (As := [_, _]) (rest := [_]) hG hAg rfl (c_X7_own l D a2 f fp fs fv fg fw td ft fn wk (nI Lp) sp iw od i1 kp hi1 hkp mk n b8 hW (xs (i + 1)) (xs (i + 2))) gL_law_X7_own rfl (by decide +kernel) ⟨Nat.le_of_ble_eq_true rfl, Nat.le_of_ble_eq_true rfl⟩ 0 rfl rfl rfl rfl rfl (Nat.le_of_ble_eq_true rfl) dL_law_210 ⟨by show _ ≤ 600000; omega, by show _ ≤ 7302250; omega⟩ rfl (fun v w9 hv => ?_)
  obtain ⟨fg', fw', wk', rfl, rfl⟩ := hv
  refine ⟨rfl, ?_⟩
  refine g_st (st' := [_, _]) rfl ?_
  refine g_icmp_eq hG dL_law_213 941 (by decide) rfl (fun _ => ?_) (fun h => absurd rfl h)
  refine g_widen (cs + 18) (sl + 420) (by omega) (by omega) ?_
  exact hback _ _ _ _ _ _ _ _ _ _ _ _ _ _ _ _ _ _ _ _ _ _ _ _ _ _ (inv_ch hI (own_ok hx) (own_fb hx hF) ⟨n', hN9, h909⟩)

set_option maxHeartbeats 4000000 in
set_option maxRecDepth 100000 in
theorem law_2 (l : Launch) {p : Program} {e : Env} {s : State} {m : MethodId} {b : Nat} {below : List Frame} {meth : Method} {c : Code} {D : DT} {A : Nat → Prop} {cs sl : Nat} {Q : State → Prop} {a a2 : Nat → Nat} {xs : Nat → Int32} {L i : Nat} (hG : GX p l e room_1 s m #[Value.ref b] below meth c D A 4 code RL wsL_law) (hAg : ∀ q, s.heap.size ≤ q → A q) (hX : va_X b L xs s s.heap) (hbl : b < s.heap.size) (hbA : ¬ A b) (hL : L ≤ 3072) (hi : i + 6 ≤ L) (hcs : cs + 18 ≤ 600000) (hsl : sl + 420 ≤ 7302250) (f : Nat → Int32) (na : Nat → Nat → Int32) (w td vl : Nat → Int32) (Lp pt fl : Nat) (kd : Int32) (kp : Nat) (pq ps : Nat → Option HH) (fp fs fv fg fw ft fn : Nat → Int32) (i1 : Nat) (wk sp iw od : Int32) (sv : Nat → Bool) (hI : INV f na td Lp kp kp pq ps fp fs fv i1 sv)
    (hback : LGO p l e s m b below meth c D A a a2 (cs + 18) (sl + 420) Q i) : GG p l e room_1 s m #[Value.ref b] below meth c D A 4 false cs sl Q (wL D a a2 f na w td vl Lp pt fl kd kp kp pq ps fp fs fv fg fw ft fn i1 wk sp iw od) 218 [(0, .ref b), (1, .ref (a 19)), (2, .ref (a2 0)), (3, .int (nI i))] [] := by
  obtain ⟨hx, hNx, hF, hLp, hch, hkp, -, hi1, hpast, hslot, hsv⟩ := id hI
  obtain ⟨mk, n, b8, hW⟩ := id hx
  have hNR := hNx.to hW
  have hn8 : n ≤ 8 := Nat.le_trans hW.2.2.2.2.2.2.1 hW.2.2.2.2.2.1
  refine g_aload_n hG dL_law_218 rfl 1 rfl rfl ?_
  refine g_aload_n hG dL_law_219 rfl 0 rfl rfl ?_
  refine g_iload_n hG dL_law_220 rfl 3 rfl rfl ?_
  refine g_iconst (v := (1 : Int32)) hG dL_law_221 (by decide) rfl ?_
  refine g_iadd hG dL_law_222 rfl ?_
  refine g_topi (y := nI (i + 1)) (nI_add (i) (1)) ?_
  refine g_sld (k := (i + 1)) hG hX hbl hbA dL_law_223 rfl (by omega) (by omega) rfl ?_
  refine g_aload_n hG dL_law_224 rfl 0 rfl rfl ?_
  refine g_iload_n hG dL_law_225 rfl 3 rfl rfl ?_
  refine g_iconst (v := (2 : Int32)) hG dL_law_226 (by decide) rfl ?_
  refine g_iadd hG dL_law_227 rfl ?_
  refine g_topi (y := nI (i + 2)) (nI_add (i) (2)) ?_
  refine g_sld (k := (i + 2)) hG hX hbl hbA dL_law_228 rfl (by omega) (by omega) rfl ?_
  refine g_aload_n hG dL_law_229 rfl 0 rfl rfl ?_
  refine g_iload_n hG dL_law_230 rfl 3 rfl rfl ?_
  refine g_iconst (v := (3 : Int32)) hG dL_law_231 (by decide) rfl ?_
  refine g_iadd hG dL_law_232 rfl ?_
  refine g_topi (y := nI (i + 3)) (nI_add (i) (3)) ?_
  refine g_sld (k := (i + 3)) hG hX hbl hbA dL_law_233 rfl (by omega) (by omega) rfl ?_
  refine g_aload_n hG dL_law_234 rfl 0 rfl rfl ?_
  refine g_iload_n hG dL_law_235 rfl 3 rfl rfl ?_
  refine g_iconst (v := (4 : Int32)) hG dL_law_236 (by decide) rfl ?_
  refine g_iadd hG dL_law_237 rfl ?_
  refine g_topi (y := nI (i + 4)) (nI_add (i) (4)) ?_
  refine g_sld (k := (i + 4)) hG hX hbl hbA dL_law_238 rfl (by omega) (by omega) rfl ?_
  refine g_callVX (n := 4) (As := [_, _, _, _]) (rest := []) hG hAg rfl (c_X6_stamp l D a f na w td vl Lp pt fl kd kp pq ps mk n b8 hW hNR hF hkp hpast.hqs (xs (i + 1)) (xs (i + 2)) (xs (i + 3)) (xs (i + 4))) gL_law_X6_stamp rfl (by decide +kernel) ⟨Nat.le_of_ble_eq_true rfl, Nat.le_of_ble_eq_true rfl⟩ 20 rfl rfl rfl rfl rfl (Nat.le_of_ble_eq_true rfl) dL_law_239 ⟨by show _ ≤ 600000; omega, by show _ ≤ 7302250; omega⟩ rfl (fun v w9 hv => ?_)
  obtain ⟨rfl, b9, nb, n', w', hAD, hN9, h909, rfl⟩ := hv
  refine ⟨hAD, ?_⟩
  refine g_st (st' := [_]) rfl ?_
  refine g_aload_n hG dL_law_242 rfl 2 rfl rfl ?_
  refine g_aload_n hG dL_law_243 rfl 0 rfl rfl ?_
  refine g_iload_n hG dL_law_244 rfl 3 rfl rfl ?_
  refine g_iconst (v := (1 : Int32)) hG dL_law_245 (by decide) rfl ?_
  refine g_iadd hG dL_law_246 rfl ?_
  refine g_topi (y := nI (i + 1)) (nI_add (i) (1)) ?_
  refine g_sld (k := (i + 1)) hG hX hbl hbA dL_law_247 rfl (by omega) (by omega) rfl ?_
  refine g_aload_n hG dL_law_248 rfl 0 rfl rfl ?_
  refine g_iload_n hG dL_law_249 rfl 3 rfl rfl ?_
  refine g_iconst (v := (2 : Int32)) hG dL_law_250 (by decide) rfl ?_
  refine g_iadd hG dL_law_251 rfl ?_
  refine g_topi (y := nI (i + 2)) (nI_add (i) (2)) ?_
  refine g_sld (k := (i + 2)) hG hX hbl hbA dL_law_252 rfl (by omega) (by omega) rfl ?_
  refine g_aload_n hG dL_law_253 rfl 0 rfl rfl ?_
  refine g_iload_n hG dL_law_254 rfl 3 rfl rfl ?_
  refine g_iconst (v := (3 : Int32)) hG dL_law_255 (by decide) rfl ?_
  refine g_iadd hG dL_law_256 rfl ?_
  refine g_topi (y := nI (i + 3)) (nI_add (i) (3)) ?_
  refine g_sld (k := (i + 3)) hG hX hbl hbA dL_law_257 rfl (by omega) (by omega) rfl ?_
  refine g_aload_n hG dL_law_258 rfl 0 rfl rfl ?_
  refine g_iload_n hG dL_law_259 rfl 3 rfl rfl ?_
  refine g_iconst (v := (4 : Int32)) hG dL_law_260 (by decide) rfl ?_
  refine g_iadd hG dL_law_261 rfl ?_
  refine g_topi (y := nI (i + 4)) (nI_add (i) (4)) ?_
  refine g_sld (k := (i + 4)) hG hX hbl hbA dL_law_262 rfl (by omega) (by omega) rfl ?_
  refine g_callVWp (n := 4) (As := [_, _, _, _]) (rest := [_]) hG hAg rfl (c_X7_stamp l D a2 f fp fs fv fg fw td ft fn wk (nI Lp) sp iw od i1 kp hi1 hkp mk n b8 hW (xs (i + 1)) (xs (i + 2)) (xs (i + 3)) (xs (i + 4))) gL_law_X7_stamp rfl (by decide +kernel) ⟨Nat.le_of_ble_eq_true rfl, Nat.le_of_ble_eq_true rfl⟩ 0 rfl rfl rfl rfl rfl (Nat.le_of_ble_eq_true rfl) dL_law_263 ⟨by show _ ≤ 600000; omega, by show _ ≤ 7302250; omega⟩ rfl (fun v w9 hv => ?_)
  obtain ⟨fg', fw', wk', rfl, rfl⟩ := hv
  refine ⟨rfl, ?_⟩
  refine g_st (st' := [_, _]) rfl ?_
  refine g_icmp_eq hG dL_law_266 941 (by decide) rfl (fun _ => ?_) (fun h => absurd rfl h)
  refine g_widen (cs + 18) (sl + 420) (by omega) (by omega) ?_
  exact hback _ _ _ _ _ _ _ _ _ _ _ _ _ _ _ _ _ _ _ _ _ _ _ _ _ _ (inv_ch hI (stamp_ok hx) (stamp_fb hF) ⟨n', hN9, h909⟩)

set_option maxHeartbeats 4000000 in
set_option maxRecDepth 100000 in
theorem law_3 (l : Launch) {p : Program} {e : Env} {s : State} {m : MethodId} {b : Nat} {below : List Frame} {meth : Method} {c : Code} {D : DT} {A : Nat → Prop} {cs sl : Nat} {Q : State → Prop} {a a2 : Nat → Nat} {xs : Nat → Int32} {L i : Nat} (hG : GX p l e room_1 s m #[Value.ref b] below meth c D A 4 code RL wsL_law) (hAg : ∀ q, s.heap.size ≤ q → A q) (hX : va_X b L xs s s.heap) (hbl : b < s.heap.size) (hbA : ¬ A b) (hL : L ≤ 3072) (hi : i + 6 ≤ L) (hcs : cs + 18 ≤ 600000) (hsl : sl + 420 ≤ 7302250) (f : Nat → Int32) (na : Nat → Nat → Int32) (w td vl : Nat → Int32) (Lp pt fl : Nat) (kd : Int32) (kp : Nat) (pq ps : Nat → Option HH) (fp fs fv fg fw ft fn : Nat → Int32) (i1 : Nat) (wk sp iw od : Int32) (sv : Nat → Bool) (hI : INV f na td Lp kp kp pq ps fp fs fv i1 sv)
    (hback : LGO p l e s m b below meth c D A a a2 (cs + 18) (sl + 420) Q i) : GG p l e room_1 s m #[Value.ref b] below meth c D A 4 false cs sl Q (wL D a a2 f na w td vl Lp pt fl kd kp kp pq ps fp fs fv fg fw ft fn i1 wk sp iw od) 271 [(0, .ref b), (1, .ref (a 19)), (2, .ref (a2 0)), (3, .int (nI i))] [] := by
  obtain ⟨hx, hNx, hF, hLp, hch, hkp, -, hi1, hpast, hslot, hsv⟩ := id hI
  obtain ⟨mk, n, b8, hW⟩ := id hx
  have hNR := hNx.to hW
  have hn8 : n ≤ 8 := Nat.le_trans hW.2.2.2.2.2.2.1 hW.2.2.2.2.2.1
  refine g_aload_n hG dL_law_271 rfl 1 rfl rfl ?_
  refine g_aload_n hG dL_law_272 rfl 0 rfl rfl ?_
  refine g_iload_n hG dL_law_273 rfl 3 rfl rfl ?_
  refine g_iconst (v := (1 : Int32)) hG dL_law_274 (by decide) rfl ?_
  refine g_iadd hG dL_law_275 rfl ?_
  refine g_topi (y := nI (i + 1)) (nI_add (i) (1)) ?_
  refine g_sld (k := (i + 1)) hG hX hbl hbA dL_law_276 rfl (by omega) (by omega) rfl ?_
  refine g_aload_n hG dL_law_277 rfl 0 rfl rfl ?_
  refine g_iload_n hG dL_law_278 rfl 3 rfl rfl ?_
  refine g_iconst (v := (2 : Int32)) hG dL_law_279 (by decide) rfl ?_
  refine g_iadd hG dL_law_280 rfl ?_
  refine g_topi (y := nI (i + 2)) (nI_add (i) (2)) ?_
  refine g_sld (k := (i + 2)) hG hX hbl hbA dL_law_281 rfl (by omega) (by omega) rfl ?_
  refine g_aload_n hG dL_law_282 rfl 0 rfl rfl ?_
  refine g_iload_n hG dL_law_283 rfl 3 rfl rfl ?_
  refine g_iconst (v := (3 : Int32)) hG dL_law_284 (by decide) rfl ?_
  refine g_iadd hG dL_law_285 rfl ?_
  refine g_topi (y := nI (i + 3)) (nI_add (i) (3)) ?_
  refine g_sld (k := (i + 3)) hG hX hbl hbA dL_law_286 rfl (by omega) (by omega) rfl ?_
  refine g_callVX (n := 3) (As := [_, _, _]) (rest := []) hG hAg rfl (c_X6_pass l D a f na w td vl Lp pt fl kd kp pq ps mk n b8 hW hNR hF hkp hpast.hqs (xs (i + 1)) (xs (i + 2)) (xs (i + 3))) gL_law_X6_pass rfl (by decide +kernel) ⟨Nat.le_of_ble_eq_true rfl, Nat.le_of_ble_eq_true rfl⟩ 20 rfl rfl rfl rfl rfl (Nat.le_of_ble_eq_true rfl) dL_law_287 ⟨by show _ ≤ 600000; omega, by show _ ≤ 7302250; omega⟩ rfl (fun v w9 hv => ?_)
  obtain ⟨rfl, b9, nb, n', w', hAD, hN9, h909, rfl⟩ := hv
  refine ⟨hAD, ?_⟩
  refine g_st (st' := [_]) rfl ?_
  refine g_aload_n hG dL_law_290 rfl 2 rfl rfl ?_
  refine g_aload_n hG dL_law_291 rfl 0 rfl rfl ?_
  refine g_iload_n hG dL_law_292 rfl 3 rfl rfl ?_
  refine g_iconst (v := (1 : Int32)) hG dL_law_293 (by decide) rfl ?_
  refine g_iadd hG dL_law_294 rfl ?_
  refine g_topi (y := nI (i + 1)) (nI_add (i) (1)) ?_
  refine g_sld (k := (i + 1)) hG hX hbl hbA dL_law_295 rfl (by omega) (by omega) rfl ?_
  refine g_aload_n hG dL_law_296 rfl 0 rfl rfl ?_
  refine g_iload_n hG dL_law_297 rfl 3 rfl rfl ?_
  refine g_iconst (v := (2 : Int32)) hG dL_law_298 (by decide) rfl ?_
  refine g_iadd hG dL_law_299 rfl ?_
  refine g_topi (y := nI (i + 2)) (nI_add (i) (2)) ?_
  refine g_sld (k := (i + 2)) hG hX hbl hbA dL_law_300 rfl (by omega) (by omega) rfl ?_
  refine g_aload_n hG dL_law_301 rfl 0 rfl rfl ?_
  refine g_iload_n hG dL_law_302 rfl 3 rfl rfl ?_
  refine g_iconst (v := (3 : Int32)) hG dL_law_303 (by decide) rfl ?_
  refine g_iadd hG dL_law_304 rfl ?_
  refine g_topi (y := nI (i + 3)) (nI_add (i) (3)) ?_
  refine g_sld (k := (i + 3)) hG hX hbl hbA dL_law_305 rfl (by omega) (by omega) rfl ?_
  refine g_callVWp (n := 3) (As := [_, _, _]) (rest := [_]) hG hAg rfl (c_X7_pass l D a2 f fp fs fv fg fw td ft fn wk (nI Lp) sp iw od i1 kp hi1 hkp mk n b8 hW (xs (i + 1)) (xs (i + 2)) (xs (i + 3))) gL_law_X7_pass rfl (by decide +kernel) ⟨Nat.le_of_ble_eq_true rfl, Nat.le_of_ble_eq_true rfl⟩ 0 rfl rfl rfl rfl rfl (Nat.le_of_ble_eq_true rfl) dL_law_306 ⟨by show _ ≤ 600000; omega, by show _ ≤ 7302250; omega⟩ rfl (fun v w9 hv => ?_)
  obtain ⟨fg', fw', wk', rfl, rfl⟩ := hv
  refine ⟨rfl, ?_⟩
  refine g_st (st' := [_, _]) rfl ?_
  refine g_icmp_eq hG dL_law_309 941 (by decide) rfl (fun _ => ?_) (fun h => absurd rfl h)
  refine g_widen (cs + 18) (sl + 420) (by omega) (by omega) ?_
  exact hback _ _ _ _ _ _ _ _ _ _ _ _ _ _ _ _ _ _ _ _ _ _ _ _ _ _ (inv_ch hI (pass_ok hx) (pass_fb hF) ⟨n', hN9, h909⟩)

set_option maxHeartbeats 4000000 in
set_option maxRecDepth 100000 in
theorem law_4 (l : Launch) {p : Program} {e : Env} {s : State} {m : MethodId} {b : Nat} {below : List Frame} {meth : Method} {c : Code} {D : DT} {A : Nat → Prop} {cs sl : Nat} {Q : State → Prop} {a a2 : Nat → Nat} {xs : Nat → Int32} {L i : Nat} (hG : GX p l e room_1 s m #[Value.ref b] below meth c D A 4 code RL wsL_law) (hAg : ∀ q, s.heap.size ≤ q → A q) (hX : va_X b L xs s s.heap) (hbl : b < s.heap.size) (hbA : ¬ A b) (hL : L ≤ 3072) (hi : i + 6 ≤ L) (hcs : cs + 18 ≤ 600000) (hsl : sl + 420 ≤ 7302250) (f : Nat → Int32) (na : Nat → Nat → Int32) (w td vl : Nat → Int32) (Lp pt fl : Nat) (kd : Int32) (kp : Nat) (pq ps : Nat → Option HH) (fp fs fv fg fw ft fn : Nat → Int32) (i1 : Nat) (wk sp iw od : Int32) (sv : Nat → Bool) (hI : INV f na td Lp kp kp pq ps fp fs fv i1 sv)
    (hback : LGO p l e s m b below meth c D A a a2 (cs + 18) (sl + 420) Q i) : GG p l e room_1 s m #[Value.ref b] below meth c D A 4 false cs sl Q (wL D a a2 f na w td vl Lp pt fl kd kp kp pq ps fp fs fv fg fw ft fn i1 wk sp iw od) 314 [(0, .ref b), (1, .ref (a 19)), (2, .ref (a2 0)), (3, .int (nI i))] [] := by
  obtain ⟨hx, hNx, hF, hLp, hch, hkp, -, hi1, hpast, hslot, hsv⟩ := id hI
  obtain ⟨mk, n, b8, hW⟩ := id hx
  have hNR := hNx.to hW
  have hn8 : n ≤ 8 := Nat.le_trans hW.2.2.2.2.2.2.1 hW.2.2.2.2.2.1
  refine g_aload_n hG dL_law_314 rfl 1 rfl rfl ?_
  refine g_aload_n hG dL_law_315 rfl 0 rfl rfl ?_
  refine g_iload_n hG dL_law_316 rfl 3 rfl rfl ?_
  refine g_iconst (v := (1 : Int32)) hG dL_law_317 (by decide) rfl ?_
  refine g_iadd hG dL_law_318 rfl ?_
  refine g_topi (y := nI (i + 1)) (nI_add (i) (1)) ?_
  refine g_sld (k := (i + 1)) hG hX hbl hbA dL_law_319 rfl (by omega) (by omega) rfl ?_
  refine g_aload_n hG dL_law_320 rfl 0 rfl rfl ?_
  refine g_iload_n hG dL_law_321 rfl 3 rfl rfl ?_
  refine g_iconst (v := (2 : Int32)) hG dL_law_322 (by decide) rfl ?_
  refine g_iadd hG dL_law_323 rfl ?_
  refine g_topi (y := nI (i + 2)) (nI_add (i) (2)) ?_
  refine g_sld (k := (i + 2)) hG hX hbl hbA dL_law_324 rfl (by omega) (by omega) rfl ?_
  refine g_aload_n hG dL_law_325 rfl 0 rfl rfl ?_
  refine g_iload_n hG dL_law_326 rfl 3 rfl rfl ?_
  refine g_iconst (v := (3 : Int32)) hG dL_law_327 (by decide) rfl ?_
  refine g_iadd hG dL_law_328 rfl ?_
  refine g_topi (y := nI (i + 3)) (nI_add (i) (3)) ?_
  refine g_sld (k := (i + 3)) hG hX hbl hbA dL_law_329 rfl (by omega) (by omega) rfl ?_
  refine g_aload_n hG dL_law_330 rfl 0 rfl rfl ?_
  refine g_iload_n hG dL_law_331 rfl 3 rfl rfl ?_
  refine g_iconst (v := (4 : Int32)) hG dL_law_332 (by decide) rfl ?_
  refine g_iadd hG dL_law_333 rfl ?_
  refine g_topi (y := nI (i + 4)) (nI_add (i) (4)) ?_
  refine g_sld (k := (i + 4)) hG hX hbl hbA dL_law_334 rfl (by omega) (by omega) rfl ?_
  refine g_aload_n hG dL_law_335 rfl 0 rfl rfl ?_
  refine g_iload_n hG dL_law_336 rfl 3 rfl rfl ?_
  refine g_iconst (v := (5 : Int32)) hG dL_law_337 (by decide) rfl ?_
  refine g_iadd hG dL_law_338 rfl ?_
  refine g_topi (y := nI (i + 5)) (nI_add (i) (5)) ?_
  refine g_sld (k := (i + 5)) hG hX hbl hbA dL_law_339 rfl (by omega) (by omega) rfl ?_
  refine g_callVX (n := 5) (As := [_, _, _, _, _]) (rest := []) hG hAg rfl (c_X6_forge l D a f na w td vl Lp pt fl kd kp pq ps mk n b8 hW hNR hF hkp hpast.hqs (xs (i + 1)) (xs (i + 2)) (xs (i + 3)) (xs (i + 4)) (xs (i + 5))) gL_law_X6_forge rfl (by decide +kernel) ⟨Nat.le_of_ble_eq_true rfl, Nat.le_of_ble_eq_true rfl⟩ 20 rfl rfl rfl rfl rfl (Nat.le_of_ble_eq_true rfl) dL_law_340 ⟨by show _ ≤ 600000; omega, by show _ ≤ 7302250; omega⟩ rfl (fun v w9 hv => ?_)
  obtain ⟨rfl, b9, nb, n', w', hAD, hN9, h909, rfl⟩ := hv
  refine ⟨hAD, ?_⟩
  refine g_st (st' := [_]) rfl ?_
  refine g_aload_n hG dL_law_343 rfl 2 rfl rfl ?_
  refine g_aload_n hG dL_law_344 rfl 0 rfl rfl ?_
  refine g_iload_n hG dL_law_345 rfl 3 rfl rfl ?_
  refine g_iconst (v := (1 : Int32)) hG dL_law_346 (by decide) rfl ?_
  refine g_iadd hG dL_law_347 rfl ?_
  refine g_topi (y := nI (i + 1)) (nI_add (i) (1)) ?_
  refine g_sld (k := (i + 1)) hG hX hbl hbA dL_law_348 rfl (by omega) (by omega) rfl ?_
  refine g_aload_n hG dL_law_349 rfl 0 rfl rfl ?_
  refine g_iload_n hG dL_law_350 rfl 3 rfl rfl ?_
  refine g_iconst (v := (2 : Int32)) hG dL_law_351 (by decide) rfl ?_
  refine g_iadd hG dL_law_352 rfl ?_
  refine g_topi (y := nI (i + 2)) (nI_add (i) (2)) ?_
  refine g_sld (k := (i + 2)) hG hX hbl hbA dL_law_353 rfl (by omega) (by omega) rfl ?_
  refine g_aload_n hG dL_law_354 rfl 0 rfl rfl ?_
  refine g_iload_n hG dL_law_355 rfl 3 rfl rfl ?_
  refine g_iconst (v := (3 : Int32)) hG dL_law_356 (by decide) rfl ?_
  refine g_iadd hG dL_law_357 rfl ?_
  refine g_topi (y := nI (i + 3)) (nI_add (i) (3)) ?_
  refine g_sld (k := (i + 3)) hG hX hbl hbA dL_law_358 rfl (by omega) (by omega) rfl ?_
  refine g_aload_n hG dL_law_359 rfl 0 rfl rfl ?_
  refine g_iload_n hG dL_law_360 rfl 3 rfl rfl ?_
  refine g_iconst (v := (4 : Int32)) hG dL_law_361 (by decide) rfl ?_
  refine g_iadd hG dL_law_362 rfl ?_
  refine g_topi (y := nI (i + 4)) (nI_add (i) (4)) ?_
  refine g_sld (k := (i + 4)) hG hX hbl hbA dL_law_363 rfl (by omega) (by omega) rfl ?_
  refine g_aload_n hG dL_law_364 rfl 0 rfl rfl ?_
  refine g_iload_n hG dL_law_365 rfl 3 rfl rfl ?_
  refine g_iconst (v := (5 : Int32)) hG dL_law_366 (by decide) rfl ?_
  refine g_iadd hG dL_law_367 rfl ?_
  refine g_topi (y := nI (i + 5)) (nI_add (i) (5)) ?_
  refine g_sld (k := (i + 5)) hG hX hbl hbA dL_law_368 rfl (by omega) (by omega) rfl ?_
  refine g_callVWp (n := 5) (As := [_, _, _, _, _]) (rest := [_]) hG hAg rfl (c_X7_forge l D a2 f fp fs fv fg fw td ft fn wk (nI Lp) sp iw od i1 kp hi1 hkp mk n b8 hW (xs (i + 1)) (xs (i + 2)) (xs (i + 3)) (xs (i + 4)) (xs (i + 5))) gL_law_X7_forge rfl (by decide +kernel) ⟨Nat.le_of_ble_eq_true rfl, Nat.le_of_ble_eq_true rfl⟩ 0 rfl rfl rfl rfl rfl (Nat.le_of_ble_eq_true rfl) dL_law_369 ⟨by show _ ≤ 600000; omega, by show _ ≤ 7302250; omega⟩ rfl (fun v w9 hv => ?_)
  obtain ⟨fg', fw', wk', rfl, rfl⟩ := hv
  refine ⟨rfl, ?_⟩
  refine g_st (st' := [_, _]) rfl ?_
  refine g_icmp_eq hG dL_law_372 941 (by decide) rfl (fun _ => ?_) (fun h => absurd rfl h)
  refine g_widen (cs + 18) (sl + 420) (by omega) (by omega) ?_
  exact hback _ _ _ _ _ _ _ _ _ _ _ _ _ _ _ _ _ _ _ _ _ _ _ _ _ _ (inv_ch hI (forge_ok hx) (forge_fb hF) ⟨n', hN9, h909⟩)
