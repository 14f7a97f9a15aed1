/-! 94.cases: by gen/law.py -/
section
variable {E : z_E} {l : Launch} {p : Program} {e : Env} {s : State} {m : MethodId} {below : List Frame} {meth : Method} {c : Code} {b L i : Nat} {xs : Nat → Int32} {Q : State → Prop} {H : Heap} {locs : List Loc} {k n : Nat} {ls : Array Slot} {S : z_S} {d : z_D} {rf : Nat → Option Nat}
theorem lc_feed (F : lw_C E p s m c b L xs) (hI : z_I S d rf) (hi : i + 6 ≤ L) (hkn : k ≤ room_1.cells ∧ n ≤ room_1.slots) (hH : z_H E (S, d) H) (hS : va_S (z_A E) s.heap H locs) (hl : lv_has ls 7 (lw_lv E b i)) (K : ∀ (d2 : z_D) (H1 : Heap) (locs1 : List Loc), z_I S d2 rf → z_H E (S, d2) H1 → va_S (z_A E) s.heap H1 locs1 → W p l e room_1 s m #[Value.ref b] below meth c H1 locs1 k n Q (F0 m 1405 ls [])) : W p l e room_1 s m #[Value.ref b] below meth c H locs k n Q (F0 m 192 ls []) := by
  obtain ⟨hBT, hrf, hMd, hou, hRc, hz⟩ := id hI
  obtain ⟨v, ev, w, ew, hvw, hz2⟩ := z_feed hz (Nat.le_refl _) (xs (i + 1)) (xs (i + 2)) (xs (i + 3)) (xs (i + 4)) (xs (i + 5))
  refine lv_aload_n F.1.1 F.1.2.1 dL_law_192 rfl (lv_at hl 1 rfl) ?_
  refine lw_arg 1 rfl F hl rfl rfl (by omega) hS 199 rfl dL_law_193 dL_law_194 dL_law_196 dL_law_197 dL_law_198 ?_
  refine lw_arg 2 rfl F hl rfl rfl (by omega) hS 205 rfl dL_law_199 dL_law_200 dL_law_202 dL_law_203 dL_law_204 ?_
  refine lw_arg 3 rfl F hl rfl rfl (by omega) hS 211 rfl dL_law_205 dL_law_206 dL_law_208 dL_law_209 dL_law_210 ?_
  refine lw_arg 4 rfl F hl rfl rfl (by omega) hS 217 rfl dL_law_211 dL_law_212 dL_law_214 dL_law_215 dL_law_216 ?_
  refine lw_arg 5 rfl F hl rfl rfl (by omega) hS 223 rfl dL_law_217 dL_law_218 dL_law_220 dL_law_221 dL_law_222 ?_
  refine lw_call0 F (c_X8_feed (E := E) (l := l) (S := S) d 0 hBT (xs (i + 1)) (xs (i + 2)) (xs (i + 3)) (xs (i + 4)) (xs (i + 5))) ev ok_X8_feed ⟨Nat.le_of_ble_eq_true rfl, Nat.le_of_ble_eq_true rfl⟩ hkn ⟨rfl, rfl⟩ (hBT.1 0 (Nat.le_of_ble_eq_true rfl)) (Nat.le_of_ble_eq_true rfl) rfl rfl rfl (Nat.le_of_ble_eq_true rfl) gL_law_X8_feed hH hS hl 226 rfl dL_law_223 [.int v.1] rfl (S, v.2) rfl (fun H1 locs1 hH1 hS1 => ?_)
  refine lv_aload_n F.1.1 F.1.2.1 dL_law_226 rfl (lv_at hl 2 rfl) ?_
  refine lw_arg 1 rfl F hl rfl rfl (by omega) hS1 233 rfl dL_law_227 dL_law_228 dL_law_230 dL_law_231 dL_law_232 ?_
  refine lw_arg 2 rfl F hl rfl rfl (by omega) hS1 239 rfl dL_law_233 dL_law_234 dL_law_236 dL_law_237 dL_law_238 ?_
  refine lw_arg 3 rfl F hl rfl rfl (by omega) hS1 245 rfl dL_law_239 dL_law_240 dL_law_242 dL_law_243 dL_law_244 ?_
  refine lw_arg 4 rfl F hl rfl rfl (by omega) hS1 251 rfl dL_law_245 dL_law_246 dL_law_248 dL_law_249 dL_law_250 ?_
  refine lw_arg 5 rfl F hl rfl rfl (by omega) hS1 257 rfl dL_law_251 dL_law_252 dL_law_254 dL_law_255 dL_law_256 ?_
  refine lw_call0 F (c_X9_feed (E := E) (l := l) (S := S) v.2 355 hMd (xs (i + 1)) (xs (i + 2)) (xs (i + 3)) (xs (i + 4)) (xs (i + 5))) ew ok_X9_feed ⟨Nat.le_of_ble_eq_true rfl, Nat.le_of_ble_eq_true rfl⟩ hkn ⟨rfl, rfl⟩ (hMd 0 (Nat.le_of_ble_eq_true rfl)) (Nat.le_of_ble_eq_true rfl) rfl rfl rfl (Nat.le_of_ble_eq_true rfl) gL_law_X9_feed hH1 hS1 hl 260 rfl dL_law_257 [.int w.1, .int v.1] rfl (S, w.2) rfl (fun H2 locs2 hH2 hS2 => ?_)
  exact lv_icmp_eq (tgt := 1405) F.1.1 F.1.2.1 dL_law_260 (by decide) (fun _ => K _ _ _ ⟨hBT, hrf, hMd, hou, hRc, hz2⟩ hH2 hS2) (fun hc => absurd hvw hc)
theorem lc_end (F : lw_C E p s m c b L xs) (hI : z_I S d rf) (hi : i + 6 ≤ L) (hkn : k ≤ room_1.cells ∧ n ≤ room_1.slots) (hH : z_H E (S, d) H) (hS : va_S (z_A E) s.heap H locs) (hl : lv_has ls 7 (lw_lv E b i)) (K : ∀ (d2 : z_D) (H1 : Heap) (locs1 : List Loc), z_I S d2 rf → z_H E (S, d2) H1 → va_S (z_A E) s.heap H1 locs1 → W p l e room_1 s m #[Value.ref b] below meth c H1 locs1 k n Q (F0 m 1405 ls [])) : W p l e room_1 s m #[Value.ref b] below meth c H locs k n Q (F0 m 265 ls []) := by
  obtain ⟨hBT, hrf, hMd, hou, hRc, hz⟩ := id hI
  obtain ⟨v, ev, w, ew, hvw, hz2⟩ := z_end hz (Nat.le_refl _) (xs (i + 1))
  refine lv_aload_n F.1.1 F.1.2.1 dL_law_265 rfl (lv_at hl 1 rfl) ?_
  refine lw_arg 1 rfl F hl rfl rfl (by omega) hS 272 rfl dL_law_266 dL_law_267 dL_law_269 dL_law_270 dL_law_271 ?_
  refine lw_call0 F (c_X8_end (E := E) (l := l) (S := S) d 0 hBT (xs (i + 1))) ev ok_X8_end ⟨Nat.le_of_ble_eq_true rfl, Nat.le_of_ble_eq_true rfl⟩ hkn ⟨rfl, rfl⟩ (hBT.1 0 (Nat.le_of_ble_eq_true rfl)) (Nat.le_of_ble_eq_true rfl) rfl rfl rfl (Nat.le_of_ble_eq_true rfl) gL_law_X8_end hH hS hl 275 rfl dL_law_272 [.int v.1] rfl (S, v.2) rfl (fun H1 locs1 hH1 hS1 => ?_)
  refine lv_aload_n F.1.1 F.1.2.1 dL_law_275 rfl (lv_at hl 2 rfl) ?_
  refine lw_arg 1 rfl F hl rfl rfl (by omega) hS1 282 rfl dL_law_276 dL_law_277 dL_law_279 dL_law_280 dL_law_281 ?_
  refine lw_call0 F (c_X9_end (E := E) (l := l) (S := S) v.2 355 hMd (xs (i + 1))) ew ok_X9_end ⟨Nat.le_of_ble_eq_true rfl, Nat.le_of_ble_eq_true rfl⟩ hkn ⟨rfl, rfl⟩ (hMd 0 (Nat.le_of_ble_eq_true rfl)) (Nat.le_of_ble_eq_true rfl) rfl rfl rfl (Nat.le_of_ble_eq_true rfl) gL_law_X9_end hH1 hS1 hl 285 rfl dL_law_282 [.int w.1, .int v.1] rfl (S, w.2) rfl (fun H2 locs2 hH2 hS2 => ?_)
  exact lv_icmp_eq (tgt := 1405) F.1.1 F.1.2.1 dL_law_285 (by decide) (fun _ => K _ _ _ ⟨hBT, hrf, hMd, hou, hRc, hz2⟩ hH2 hS2) (fun hc => absurd hvw hc)
theorem lc_tell (F : lw_C E p s m c b L xs) (hI : z_I S d rf) (hi : i + 6 ≤ L) (hkn : k ≤ room_1.cells ∧ n ≤ room_1.slots) (hH : z_H E (S, d) H) (hS : va_S (z_A E) s.heap H locs) (hl : lv_has ls 7 (lw_lv E b i)) (K : ∀ (d2 : z_D) (H1 : Heap) (locs1 : List Loc), z_I S d2 rf → z_H E (S, d2) H1 → va_S (z_A E) s.heap H1 locs1 → W p l e room_1 s m #[Value.ref b] below meth c H1 locs1 k n Q (F0 m 1405 ls [])) : W p l e room_1 s m #[Value.ref b] below meth c H locs k n Q (F0 m 290 ls []) := by
  obtain ⟨hBT, hrf, hMd, hou, hRc, hz⟩ := id hI
  obtain ⟨v, ev, w, ew, hvw, hz2⟩ := z_tell hz (Nat.le_refl _) 
  refine lv_aload_n F.1.1 F.1.2.1 dL_law_290 rfl (lv_at hl 1 rfl) ?_
  refine lw_call0 F (c_X8_tell (E := E) (l := l) (S := S) d 0 hBT ) ev ok_X8_tell ⟨Nat.le_of_ble_eq_true rfl, Nat.le_of_ble_eq_true rfl⟩ hkn ⟨rfl, rfl⟩ (hBT.1 0 (Nat.le_of_ble_eq_true rfl)) (Nat.le_of_ble_eq_true rfl) rfl rfl rfl (Nat.le_of_ble_eq_true rfl) gL_law_X8_tell hH hS hl 294 rfl dL_law_291 [.int v.1] rfl (S, v.2) rfl (fun H1 locs1 hH1 hS1 => ?_)
  refine lv_aload_n F.1.1 F.1.2.1 dL_law_294 rfl (lv_at hl 2 rfl) ?_
  refine lw_call0 F (c_X9_tell (E := E) (l := l) (S := S) v.2 355 hMd ) ew ok_X9_tell ⟨Nat.le_of_ble_eq_true rfl, Nat.le_of_ble_eq_true rfl⟩ hkn ⟨rfl, rfl⟩ (hMd 0 (Nat.le_of_ble_eq_true rfl)) (Nat.le_of_ble_eq_true rfl) rfl rfl rfl (Nat.le_of_ble_eq_true rfl) gL_law_X9_tell hH1 hS1 hl 298 rfl dL_law_295 [.int w.1, .int v.1] rfl (S, w.2) rfl (fun H2 locs2 hH2 hS2 => ?_)
  exact lv_icmp_eq (tgt := 1405) F.1.1 F.1.2.1 dL_law_298 (by decide) (fun _ => K _ _ _ ⟨hBT, hrf, hMd, hou, hRc, hz2⟩ hH2 hS2) (fun hc => absurd hvw hc)
theorem lc_fault (F : lw_C E p s m c b L xs) (hI : z_I S d rf) (hi : i + 6 ≤ L) (hkn : k ≤ room_1.cells ∧ n ≤ room_1.slots) (hH : z_H E (S, d) H) (hS : va_S (z_A E) s.heap H locs) (hl : lv_has ls 7 (lw_lv E b i)) (K : ∀ (d2 : z_D) (H1 : Heap) (locs1 : List Loc), z_I S d2 rf → z_H E (S, d2) H1 → va_S (z_A E) s.heap H1 locs1 → W p l e room_1 s m #[Value.ref b] below meth c H1 locs1 k n Q (F0 m 1405 ls [])) : W p l e room_1 s m #[Value.ref b] below meth c H locs k n Q (F0 m 303 ls []) := by
  obtain ⟨hBT, hrf, hMd, hou, hRc, hz⟩ := id hI
  obtain ⟨v, ev, w, ew, hvw, hz2⟩ := z_fault hz (Nat.le_refl _) 
  refine lv_aload_n F.1.1 F.1.2.1 dL_law_303 rfl (lv_at hl 1 rfl) ?_
  refine lw_call0 F (c_X8_fault (E := E) (l := l) (S := S) d 0 hBT ) ev ok_X8_fault ⟨Nat.le_of_ble_eq_true rfl, Nat.le_of_ble_eq_true rfl⟩ hkn ⟨rfl, rfl⟩ (hBT.1 0 (Nat.le_of_ble_eq_true rfl)) (Nat.le_of_ble_eq_true rfl) rfl rfl rfl (Nat.le_of_ble_eq_true rfl) gL_law_X8_fault hH hS hl 307 rfl dL_law_304 [.int v] rfl (S, d) rfl (fun H1 locs1 hH1 hS1 => ?_)
  refine lv_aload_n F.1.1 F.1.2.1 dL_law_307 rfl (lv_at hl 2 rfl) ?_
  refine lw_call0 F (c_X9_fault (E := E) (l := l) (S := S) d 355 hMd ) ew ok_X9_fault ⟨Nat.le_of_ble_eq_true rfl, Nat.le_of_ble_eq_true rfl⟩ hkn ⟨rfl, rfl⟩ (hMd 0 (Nat.le_of_ble_eq_true rfl)) (Nat.le_of_ble_eq_true rfl) rfl rfl rfl (Nat.le_of_ble_eq_true rfl) gL_law_X9_fault hH1 hS1 hl 311 rfl dL_law_308 [.int w.1, .int v] rfl (S, w.2) rfl (fun H2 locs2 hH2 hS2 => ?_)
  exact lv_icmp_eq (tgt := 1405) F.1.1 F.1.2.1 dL_law_311 (by decide) (fun _ => K _ _ _ ⟨hBT, hrf, hMd, hou, hRc, hz2⟩ hH2 hS2) (fun hc => absurd hvw hc)
theorem lc_team (F : lw_C E p s m c b L xs) (hI : z_I S d rf) (hi : i + 6 ≤ L) (hkn : k ≤ room_1.cells ∧ n ≤ room_1.slots) (hH : z_H E (S, d) H) (hS : va_S (z_A E) s.heap H locs) (hl : lv_has ls 7 (lw_lv E b i)) (K : ∀ (d2 : z_D) (H1 : Heap) (locs1 : List Loc), z_I S d2 rf → z_H E (S, d2) H1 → va_S (z_A E) s.heap H1 locs1 → W p l e room_1 s m #[Value.ref b] below meth c H1 locs1 k n Q (F0 m 1405 ls [])) : W p l e room_1 s m #[Value.ref b] below meth c H locs k n Q (F0 m 316 ls []) := by
  obtain ⟨hBT, hrf, hMd, hou, hRc, hz⟩ := id hI
  obtain ⟨v, ev, w, ew, hvw, hz2⟩ := z_team hz (Nat.le_refl _) 
  refine lv_aload_n F.1.1 F.1.2.1 dL_law_316 rfl (lv_at hl 1 rfl) ?_
  refine lw_call0 F (c_X8_team (E := E) (l := l) (S := S) d 0 hBT ) ev ok_X8_team ⟨Nat.le_of_ble_eq_true rfl, Nat.le_of_ble_eq_true rfl⟩ hkn ⟨rfl, rfl⟩ (hBT.1 0 (Nat.le_of_ble_eq_true rfl)) (Nat.le_of_ble_eq_true rfl) rfl rfl rfl (Nat.le_of_ble_eq_true rfl) gL_law_X8_team hH hS hl 320 rfl dL_law_317 [.int v.1] rfl (S, v.2) rfl (fun H1 locs1 hH1 hS1 => ?_)
  refine lv_aload_n F.1.1 F.1.2.1 dL_law_320 rfl (lv_at hl 2 rfl) ?_
  refine lw_call0 F (c_X9_team (E := E) (l := l) (S := S) v.2 355 hMd ) ew ok_X9_team ⟨Nat.le_of_ble_eq_true rfl, Nat.le_of_ble_eq_true rfl⟩ hkn ⟨rfl, rfl⟩ (hMd 0 (Nat.le_of_ble_eq_true rfl)) (Nat.le_of_ble_eq_true rfl) rfl rfl rfl (Nat.le_of_ble_eq_true rfl) gL_law_X9_team hH1 hS1 hl 324 rfl dL_law_321 [.int w.1, .int v.1] rfl (S, w.2) rfl (fun H2 locs2 hH2 hS2 => ?_)
  exact lv_icmp_eq (tgt := 1405) F.1.1 F.1.2.1 dL_law_324 (by decide) (fun _ => K _ _ _ ⟨hBT, hrf, hMd, hou, hRc, hz2⟩ hH2 hS2) (fun hc => absurd hvw hc)
theorem lc_rider (F : lw_C E p s m c b L xs) (hI : z_I S d rf) (hi : i + 6 ≤ L) (hkn : k ≤ room_1.cells ∧ n ≤ room_1.slots) (hH : z_H E (S, d) H) (hS : va_S (z_A E) s.heap H locs) (hl : lv_has ls 7 (lw_lv E b i)) (K : ∀ (d2 : z_D) (H1 : Heap) (locs1 : List Loc), z_I S d2 rf → z_H E (S, d2) H1 → va_S (z_A E) s.heap H1 locs1 → W p l e room_1 s m #[Value.ref b] below meth c H1 locs1 k n Q (F0 m 1405 ls [])) : W p l e room_1 s m #[Value.ref b] below meth c H locs k n Q (F0 m 329 ls []) := by
  obtain ⟨hBT, hrf, hMd, hou, hRc, hz⟩ := id hI
  obtain ⟨v, ev, w, ew, hvw, hz2⟩ := z_rider hz (Nat.le_refl _) (xs (i + 1)) (xs (i + 2))
  refine lv_aload_n F.1.1 F.1.2.1 dL_law_329 rfl (lv_at hl 1 rfl) ?_
  refine lw_arg 1 rfl F hl rfl rfl (by omega) hS 336 rfl dL_law_330 dL_law_331 dL_law_333 dL_law_334 dL_law_335 ?_
  refine lw_arg 2 rfl F hl rfl rfl (by omega) hS 342 rfl dL_law_336 dL_law_337 dL_law_339 dL_law_340 dL_law_341 ?_
  refine lw_call0 F (c_X8_rider (E := E) (l := l) (S := S) d 0 hBT (xs (i + 1)) (xs (i + 2))) ev ok_X8_rider ⟨Nat.le_of_ble_eq_true rfl, Nat.le_of_ble_eq_true rfl⟩ hkn ⟨rfl, rfl⟩ (hBT.1 0 (Nat.le_of_ble_eq_true rfl)) (Nat.le_of_ble_eq_true rfl) rfl rfl rfl (Nat.le_of_ble_eq_true rfl) gL_law_X8_rider hH hS hl 345 rfl dL_law_342 [.int v.1] rfl (S, v.2) rfl (fun H1 locs1 hH1 hS1 => ?_)
  refine lv_aload_n F.1.1 F.1.2.1 dL_law_345 rfl (lv_at hl 2 rfl) ?_
  refine lw_arg 1 rfl F hl rfl rfl (by omega) hS1 352 rfl dL_law_346 dL_law_347 dL_law_349 dL_law_350 dL_law_351 ?_
  refine lw_arg 2 rfl F hl rfl rfl (by omega) hS1 358 rfl dL_law_352 dL_law_353 dL_law_355 dL_law_356 dL_law_357 ?_
  refine lw_call0 F (c_X9_rider (E := E) (l := l) (S := S) v.2 355 hMd (xs (i + 1)) (xs (i + 2))) ew ok_X9_rider ⟨Nat.le_of_ble_eq_true rfl, Nat.le_of_ble_eq_true rfl⟩ hkn ⟨rfl, rfl⟩ (hMd 0 (Nat.le_of_ble_eq_true rfl)) (Nat.le_of_ble_eq_true rfl) rfl rfl rfl (Nat.le_of_ble_eq_true rfl) gL_law_X9_rider hH1 hS1 hl 361 rfl dL_law_358 [.int w.1, .int v.1] rfl (S, w.2) rfl (fun H2 locs2 hH2 hS2 => ?_)
  exact lv_icmp_eq (tgt := 1405) F.1.1 F.1.2.1 dL_law_361 (by decide) (fun _ => K _ _ _ ⟨hBT, hrf, hMd, hou, hRc, hz2⟩ hH2 hS2) (fun hc => absurd hvw hc)
theorem lc_stage (F : lw_C E p s m c b L xs) (hI : z_I S d rf) (hi : i + 6 ≤ L) (hkn : k ≤ room_1.cells ∧ n ≤ room_1.slots) (hH : z_H E (S, d) H) (hS : va_S (z_A E) s.heap H locs) (hl : lv_has ls 7 (lw_lv E b i)) (K : ∀ (d2 : z_D) (H1 : Heap) (locs1 : List Loc), z_I S d2 rf → z_H E (S, d2) H1 → va_S (z_A E) s.heap H1 locs1 → W p l e room_1 s m #[Value.ref b] below meth c H1 locs1 k n Q (F0 m 1405 ls [])) : W p l e room_1 s m #[Value.ref b] below meth c H locs k n Q (F0 m 366 ls []) := by
  obtain ⟨hBT, hrf, hMd, hou, hRc, hz⟩ := id hI
  obtain ⟨v, ev, w, ew, hvw, hz2⟩ := z_stage hz (Nat.le_refl _) (xs (i + 1)) (xs (i + 2))
  refine lv_aload_n F.1.1 F.1.2.1 dL_law_366 rfl (lv_at hl 1 rfl) ?_
  refine lw_arg 1 rfl F hl rfl rfl (by omega) hS 373 rfl dL_law_367 dL_law_368 dL_law_370 dL_law_371 dL_law_372 ?_
  refine lw_arg 2 rfl F hl rfl rfl (by omega) hS 379 rfl dL_law_373 dL_law_374 dL_law_376 dL_law_377 dL_law_378 ?_
  refine lw_call0 F (c_X8_stage (E := E) (l := l) (S := S) d 0 hBT (xs (i + 1)) (xs (i + 2))) ev ok_X8_stage ⟨Nat.le_of_ble_eq_true rfl, Nat.le_of_ble_eq_true rfl⟩ hkn ⟨rfl, rfl⟩ (hBT.1 0 (Nat.le_of_ble_eq_true rfl)) (Nat.le_of_ble_eq_true rfl) rfl rfl rfl (Nat.le_of_ble_eq_true rfl) gL_law_X8_stage hH hS hl 382 rfl dL_law_379 [.int v.1] rfl (S, v.2) rfl (fun H1 locs1 hH1 hS1 => ?_)
  refine lv_aload_n F.1.1 F.1.2.1 dL_law_382 rfl (lv_at hl 2 rfl) ?_
  refine lw_arg 1 rfl F hl rfl rfl (by omega) hS1 389 rfl dL_law_383 dL_law_384 dL_law_386 dL_law_387 dL_law_388 ?_
  refine lw_arg 2 rfl F hl rfl rfl (by omega) hS1 395 rfl dL_law_389 dL_law_390 dL_law_392 dL_law_393 dL_law_394 ?_
  refine lw_call0 F (c_X9_stage (E := E) (l := l) (S := S) v.2 355 hMd (xs (i + 1)) (xs (i + 2))) ew ok_X9_stage ⟨Nat.le_of_ble_eq_true rfl, Nat.le_of_ble_eq_true rfl⟩ hkn ⟨rfl, rfl⟩ (hMd 0 (Nat.le_of_ble_eq_true rfl)) (Nat.le_of_ble_eq_true rfl) rfl rfl rfl (Nat.le_of_ble_eq_true rfl) gL_law_X9_stage hH1 hS1 hl 398 rfl dL_law_395 [.int w.1, .int v.1] rfl (S, w.2) rfl (fun H2 locs2 hH2 hS2 => ?_)
  exact lv_icmp_eq (tgt := 1405) F.1.1 F.1.2.1 dL_law_398 (by decide) (fun _ => K _ _ _ ⟨hBT, hrf, hMd, hou, hRc, hz2⟩ hH2 hS2) (fun hc => absurd hvw hc)
theorem lc_mark (F : lw_C E p s m c b L xs) (hI : z_I S d rf) (hi : i + 6 ≤ L) (hkn : k ≤ room_1.cells ∧ n ≤ room_1.slots) (hH : z_H E (S, d) H) (hS : va_S (z_A E) s.heap H locs) (hl : lv_has ls 7 (lw_lv E b i)) (K : ∀ (d2 : z_D) (H1 : Heap) (locs1 : List Loc), z_I S d2 rf → z_H E (S, d2) H1 → va_S (z_A E) s.heap H1 locs1 → W p l e room_1 s m #[Value.ref b] below meth c H1 locs1 k n Q (F0 m 1405 ls [])) : W p l e room_1 s m #[Value.ref b] below meth c H locs k n Q (F0 m 403 ls []) := by
  obtain ⟨hBT, hrf, hMd, hou, hRc, hz⟩ := id hI
  obtain ⟨v, ev, w, ew, hvw, hz2⟩ := z_mark hz (Nat.le_refl _) (xs (i + 1)) (xs (i + 2))
  refine lv_aload_n F.1.1 F.1.2.1 dL_law_403 rfl (lv_at hl 1 rfl) ?_
  refine lw_arg 1 rfl F hl rfl rfl (by omega) hS 410 rfl dL_law_404 dL_law_405 dL_law_407 dL_law_408 dL_law_409 ?_
  refine lw_arg 2 rfl F hl rfl rfl (by omega) hS 416 rfl dL_law_410 dL_law_411 dL_law_413 dL_law_414 dL_law_415 ?_
  refine lw_call0 F (c_X8_mark (E := E) (l := l) (S := S) d 0 hBT (xs (i + 1)) (xs (i + 2))) ev ok_X8_mark ⟨Nat.le_of_ble_eq_true rfl, Nat.le_of_ble_eq_true rfl⟩ hkn ⟨rfl, rfl⟩ (hBT.1 0 (Nat.le_of_ble_eq_true rfl)) (Nat.le_of_ble_eq_true rfl) rfl rfl rfl (Nat.le_of_ble_eq_true rfl) gL_law_X8_mark hH hS hl 419 rfl dL_law_416 [.int v.1] rfl (S, v.2) rfl (fun H1 locs1 hH1 hS1 => ?_)
  refine lv_aload_n F.1.1 F.1.2.1 dL_law_419 rfl (lv_at hl 2 rfl) ?_
  refine lw_arg 1 rfl F hl rfl rfl (by omega) hS1 426 rfl dL_law_420 dL_law_421 dL_law_423 dL_law_424 dL_law_425 ?_
  refine lw_arg 2 rfl F hl rfl rfl (by omega) hS1 432 rfl dL_law_426 dL_law_427 dL_law_429 dL_law_430 dL_law_431 ?_
  refine lw_call0 F (c_X9_mark_ (E := E) (l := l) (S := S) v.2 355 hMd (xs (i + 1)) (xs (i + 2))) ew ok_X9_mark_ ⟨Nat.le_of_ble_eq_true rfl, Nat.le_of_ble_eq_true rfl⟩ hkn ⟨rfl, rfl⟩ (hMd 0 (Nat.le_of_ble_eq_true rfl)) (Nat.le_of_ble_eq_true rfl) rfl rfl rfl (Nat.le_of_ble_eq_true rfl) gL_law_X9_mark_ hH1 hS1 hl 435 rfl dL_law_432 [.int w.1, .int v.1] rfl (S, w.2) rfl (fun H2 locs2 hH2 hS2 => ?_)
  exact lv_icmp_eq (tgt := 1405) F.1.1 F.1.2.1 dL_law_435 (by decide) (fun _ => K _ _ _ ⟨hBT, hrf, hMd, hou, hRc, hz2⟩ hH2 hS2) (fun hc => absurd hvw hc)
theorem lc_finish (F : lw_C E p s m c b L xs) (hI : z_I S d rf) (hi : i + 6 ≤ L) (hkn : k ≤ room_1.cells ∧ n ≤ room_1.slots) (hH : z_H E (S, d) H) (hS : va_S (z_A E) s.heap H locs) (hl : lv_has ls 7 (lw_lv E b i)) (K : ∀ (d2 : z_D) (H1 : Heap) (locs1 : List Loc), z_I S d2 rf → z_H E (S, d2) H1 → va_S (z_A E) s.heap H1 locs1 → W p l e room_1 s m #[Value.ref b] below meth c H1 locs1 k n Q (F0 m 1405 ls [])) : W p l e room_1 s m #[Value.ref b] below meth c H locs k n Q (F0 m 440 ls []) := by
  obtain ⟨hBT, hrf, hMd, hou, hRc, hz⟩ := id hI
  obtain ⟨v, ev, w, ew, hvw, hz2⟩ := z_finish hz (Nat.le_refl _) (xs (i + 1)) (xs (i + 2))
  refine lv_aload_n F.1.1 F.1.2.1 dL_law_440 rfl (lv_at hl 1 rfl) ?_
  refine lw_arg 1 rfl F hl rfl rfl (by omega) hS 447 rfl dL_law_441 dL_law_442 dL_law_444 dL_law_445 dL_law_446 ?_
  refine lw_arg 2 rfl F hl rfl rfl (by omega) hS 453 rfl dL_law_447 dL_law_448 dL_law_450 dL_law_451 dL_law_452 ?_
  refine lw_call0 F (c_X8_finish (E := E) (l := l) (S := S) d 0 hBT (xs (i + 1)) (xs (i + 2))) ev ok_X8_finish ⟨Nat.le_of_ble_eq_true rfl, Nat.le_of_ble_eq_true rfl⟩ hkn ⟨rfl, rfl⟩ (hBT.1 0 (Nat.le_of_ble_eq_true rfl)) (Nat.le_of_ble_eq_true rfl) rfl rfl rfl (Nat.le_of_ble_eq_true rfl) gL_law_X8_finish hH hS hl 456 rfl dL_law_453 [.int v.1] rfl (S, v.2) rfl (fun H1 locs1 hH1 hS1 => ?_)
  refine lv_aload_n F.1.1 F.1.2.1 dL_law_456 rfl (lv_at hl 2 rfl) ?_
  refine lw_arg 1 rfl F hl rfl rfl (by omega) hS1 463 rfl dL_law_457 dL_law_458 dL_law_460 dL_law_461 dL_law_462 ?_
  refine lw_arg 2 rfl F hl rfl rfl (by omega) hS1 469 rfl dL_law_463 dL_law_464 dL_law_466 dL_law_467 dL_law_468 ?_
  refine lw_call0 F (c_X9_finish (E := E) (l := l) (S := S) v.2 355 hMd (xs (i + 1)) (xs (i + 2))) ew ok_X9_finish ⟨Nat.le_of_ble_eq_true rfl, Nat.le_of_ble_eq_true rfl⟩ hkn ⟨rfl, rfl⟩ (hMd 0 (Nat.le_of_ble_eq_true rfl)) (Nat.le_of_ble_eq_true rfl) rfl rfl rfl (Nat.le_of_ble_eq_true rfl) gL_law_X9_finish hH1 hS1 hl 472 rfl dL_law_469 [.int w.1, .int v.1] rfl (S, w.2) rfl (fun H2 locs2 hH2 hS2 => ?_)
  exact lv_icmp_eq (tgt := 1405) F.1.1 F.1.2.1 dL_law_472 (by decide) (fun _ => K _ _ _ ⟨hBT, hrf, hMd, hou, hRc, hz2⟩ hH2 hS2) (fun hc => absurd hvw hc)
theorem lc_over (F : lw_C E p s m c b L xs) (hI : z_I S d rf) (hi : i + 6 ≤ L) (hkn : k ≤ room_1.cells ∧ n ≤ room_1.slots) (hH : z_H E (S, d) H) (hS : va_S (z_A E) s.heap H locs) (hl : lv_has ls 7 (lw_lv E b i)) (K : ∀ (d2 : z_D) (H1 : Heap) (locs1 : List Loc), z_I S d2 rf → z_H E (S, d2) H1 → va_S (z_A E) s.heap H1 locs1 → W p l e room_1 s m #[Value.ref b] below meth c H1 locs1 k n Q (F0 m 1405 ls [])) : W p l e room_1 s m #[Value.ref b] below meth c H locs k n Q (F0 m 477 ls []) := by
  obtain ⟨hBT, hrf, hMd, hou, hRc, hz⟩ := id hI
  obtain ⟨v, ev, w, ew, hvw, hz2⟩ := z_over hz (Nat.le_refl _) (xs (i + 1)) (xs (i + 2))
  refine lv_aload_n F.1.1 F.1.2.1 dL_law_477 rfl (lv_at hl 1 rfl) ?_
  refine lw_arg 1 rfl F hl rfl rfl (by omega) hS 484 rfl dL_law_478 dL_law_479 dL_law_481 dL_law_482 dL_law_483 ?_
  refine lw_arg 2 rfl F hl rfl rfl (by omega) hS 490 rfl dL_law_484 dL_law_485 dL_law_487 dL_law_488 dL_law_489 ?_
  refine lw_call0 F (c_X8_over (E := E) (l := l) (S := S) d 0 hBT (xs (i + 1)) (xs (i + 2))) ev ok_X8_over ⟨Nat.le_of_ble_eq_true rfl, Nat.le_of_ble_eq_true rfl⟩ hkn ⟨rfl, rfl⟩ (hBT.1 0 (Nat.le_of_ble_eq_true rfl)) (Nat.le_of_ble_eq_true rfl) rfl rfl rfl (Nat.le_of_ble_eq_true rfl) gL_law_X8_over hH hS hl 493 rfl dL_law_490 [.int v.1] rfl (S, v.2) rfl (fun H1 locs1 hH1 hS1 => ?_)
  refine lv_aload_n F.1.1 F.1.2.1 dL_law_493 rfl (lv_at hl 2 rfl) ?_
  refine lw_arg 1 rfl F hl rfl rfl (by omega) hS1 500 rfl dL_law_494 dL_law_495 dL_law_497 dL_law_498 dL_law_499 ?_
  refine lw_arg 2 rfl F hl rfl rfl (by omega) hS1 506 rfl dL_law_500 dL_law_501 dL_law_503 dL_law_504 dL_law_505 ?_
  refine lw_call0 F (c_X9_over (E := E) (l := l) (S := S) v.2 355 hMd (xs (i + 1)) (xs (i + 2))) ew ok_X9_over ⟨Nat.le_of_ble_eq_true rfl, Nat.le_of_ble_eq_true rfl⟩ hkn ⟨rfl, rfl⟩ (hMd 0 (Nat.le_of_ble_eq_true rfl)) (Nat.le_of_ble_eq_true rfl) rfl rfl rfl (Nat.le_of_ble_eq_true rfl) gL_law_X9_over hH1 hS1 hl 509 rfl dL_law_506 [.int w.1, .int v.1] rfl (S, w.2) rfl (fun H2 locs2 hH2 hS2 => ?_)
  exact lv_icmp_eq (tgt := 1405) F.1.1 F.1.2.1 dL_law_509 (by decide) (fun _ => K _ _ _ ⟨hBT, hrf, hMd, hou, hRc, hz2⟩ hH2 hS2) (fun hc => absurd hvw hc)
theorem lc_fall (F : lw_C E p s m c b L xs) (hI : z_I S d rf) (hi : i + 6 ≤ L) (hkn : k ≤ room_1.cells ∧ n ≤ room_1.slots) (hH : z_H E (S, d) H) (hS : va_S (z_A E) s.heap H locs) (hl : lv_has ls 7 (lw_lv E b i)) (K : ∀ (d2 : z_D) (H1 : Heap) (locs1 : List Loc), z_I S d2 rf → z_H E (S, d2) H1 → va_S (z_A E) s.heap H1 locs1 → W p l e room_1 s m #[Value.ref b] below meth c H1 locs1 k n Q (F0 m 1405 ls [])) : W p l e room_1 s m #[Value.ref b] below meth c H locs k n Q (F0 m 514 ls []) := by
  obtain ⟨hBT, hrf, hMd, hou, hRc, hz⟩ := id hI
  obtain ⟨v, ev, w, ew, hvw, hz2⟩ := z_fall hz (Nat.le_refl _) (xs (i + 1)) (xs (i + 2)) (xs (i + 3))
  refine lv_aload_n F.1.1 F.1.2.1 dL_law_514 rfl (lv_at hl 1 rfl) ?_
  refine lw_arg 1 rfl F hl rfl rfl (by omega) hS 521 rfl dL_law_515 dL_law_516 dL_law_518 dL_law_519 dL_law_520 ?_
  refine lw_arg 2 rfl F hl rfl rfl (by omega) hS 527 rfl dL_law_521 dL_law_522 dL_law_524 dL_law_525 dL_law_526 ?_
  refine lw_arg 3 rfl F hl rfl rfl (by omega) hS 533 rfl dL_law_527 dL_law_528 dL_law_530 dL_law_531 dL_law_532 ?_
  refine lw_call0 F (c_X8_fall (E := E) (l := l) (S := S) d 0 hBT (xs (i + 1)) (xs (i + 2)) (xs (i + 3))) ev ok_X8_fall ⟨Nat.le_of_ble_eq_true rfl, Nat.le_of_ble_eq_true rfl⟩ hkn ⟨rfl, rfl⟩ (hBT.1 0 (Nat.le_of_ble_eq_true rfl)) (Nat.le_of_ble_eq_true rfl) rfl rfl rfl (Nat.le_of_ble_eq_true rfl) gL_law_X8_fall hH hS hl 536 rfl dL_law_533 [.int v.1] rfl (S, v.2) rfl (fun H1 locs1 hH1 hS1 => ?_)
  refine lv_aload_n F.1.1 F.1.2.1 dL_law_536 rfl (lv_at hl 2 rfl) ?_
  refine lw_arg 1 rfl F hl rfl rfl (by omega) hS1 543 rfl dL_law_537 dL_law_538 dL_law_540 dL_law_541 dL_law_542 ?_
  refine lw_arg 2 rfl F hl rfl rfl (by omega) hS1 549 rfl dL_law_543 dL_law_544 dL_law_546 dL_law_547 dL_law_548 ?_
  refine lw_arg 3 rfl F hl rfl rfl (by omega) hS1 555 rfl dL_law_549 dL_law_550 dL_law_552 dL_law_553 dL_law_554 ?_
  refine lw_call0 F (c_X9_fall (E := E) (l := l) (S := S) v.2 355 hMd (xs (i + 1)) (xs (i + 2)) (xs (i + 3))) ew ok_X9_fall ⟨Nat.le_of_ble_eq_true rfl, Nat.le_of_ble_eq_true rfl⟩ hkn ⟨rfl, rfl⟩ (hMd 0 (Nat.le_of_ble_eq_true rfl)) (Nat.le_of_ble_eq_true rfl) rfl rfl rfl (Nat.le_of_ble_eq_true rfl) gL_law_X9_fall hH1 hS1 hl 558 rfl dL_law_555 [.int w.1, .int v.1] rfl (S, w.2) rfl (fun H2 locs2 hH2 hS2 => ?_)
  exact lv_icmp_eq (tgt := 1405) F.1.1 F.1.2.1 dL_law_558 (by decide) (fun _ => K _ _ _ ⟨hBT, hrf, hMd, hou, hRc, hz2⟩ hH2 hS2) (fun hc => absurd hvw hc)
theorem lc_jury (F : lw_C E p s m c b L xs) (hI : z_I S d rf) (hi : i + 6 ≤ L) (hkn : k ≤ room_1.cells ∧ n ≤ room_1.slots) (hH : z_H E (S, d) H) (hS : va_S (z_A E) s.heap H locs) (hl : lv_has ls 7 (lw_lv E b i)) (K : ∀ (d2 : z_D) (H1 : Heap) (locs1 : List Loc), z_I S d2 rf → z_H E (S, d2) H1 → va_S (z_A E) s.heap H1 locs1 → W p l e room_1 s m #[Value.ref b] below meth c H1 locs1 k n Q (F0 m 1405 ls [])) : W p l e room_1 s m #[Value.ref b] below meth c H locs k n Q (F0 m 563 ls []) := by
  obtain ⟨hBT, hrf, hMd, hou, hRc, hz⟩ := id hI
  obtain ⟨v, ev, w, ew, hvw, hz2⟩ := z_jury hz (Nat.le_refl _) (xs (i + 1)) (xs (i + 2))
  refine lv_aload_n F.1.1 F.1.2.1 dL_law_563 rfl (lv_at hl 1 rfl) ?_
  refine lw_arg 1 rfl F hl rfl rfl (by omega) hS 570 rfl dL_law_564 dL_law_565 dL_law_567 dL_law_568 dL_law_569 ?_
  refine lw_arg 2 rfl F hl rfl rfl (by omega) hS 576 rfl dL_law_570 dL_law_571 dL_law_573 dL_law_574 dL_law_575 ?_
  refine lw_call0 F (c_X8_jury (E := E) (l := l) (S := S) d 0 hBT (xs (i + 1)) (xs (i + 2))) ev ok_X8_jury ⟨Nat.le_of_ble_eq_true rfl, Nat.le_of_ble_eq_true rfl⟩ hkn ⟨rfl, rfl⟩ (hBT.1 0 (Nat.le_of_ble_eq_true rfl)) (Nat.le_of_ble_eq_true rfl) rfl rfl rfl (Nat.le_of_ble_eq_true rfl) gL_law_X8_jury hH hS hl 579 rfl dL_law_576 [.int v.1] rfl (S, v.2) rfl (fun H1 locs1 hH1 hS1 => ?_)
  refine lv_aload_n F.1.1 F.1.2.1 dL_law_579 rfl (lv_at hl 2 rfl) ?_
  refine lw_arg 1 rfl F hl rfl rfl (by omega) hS1 586 rfl dL_law_580 dL_law_581 dL_law_583 dL_law_584 dL_law_585 ?_
  refine lw_arg 2 rfl F hl rfl rfl (by omega) hS1 592 rfl dL_law_586 dL_law_587 dL_law_589 dL_law_590 dL_law_591 ?_
  refine lw_call0 F (c_X9_jury (E := E) (l := l) (S := S) v.2 355 hMd (xs (i + 1)) (xs (i + 2))) ew ok_X9_jury ⟨Nat.le_of_ble_eq_true rfl, Nat.le_of_ble_eq_true rfl⟩ hkn ⟨rfl, rfl⟩ (hMd 0 (Nat.le_of_ble_eq_true rfl)) (Nat.le_of_ble_eq_true rfl) rfl rfl rfl (Nat.le_of_ble_eq_true rfl) gL_law_X9_jury hH1 hS1 hl 595 rfl dL_law_592 [.int w.1, .int v.1] rfl (S, w.2) rfl (fun H2 locs2 hH2 hS2 => ?_)
  exact lv_icmp_eq (tgt := 1405) F.1.1 F.1.2.1 dL_law_595 (by decide) (fun _ => K _ _ _ ⟨hBT, hrf, hMd, hou, hRc, hz2⟩ hH2 hS2) (fun hc => absurd hvw hc)
theorem lc_grace (F : lw_C E p s m c b L xs) (hI : z_I S d rf) (hi : i + 6 ≤ L) (hkn : k ≤ room_1.cells ∧ n ≤ room_1.slots) (hH : z_H E (S, d) H) (hS : va_S (z_A E) s.heap H locs) (hl : lv_has ls 7 (lw_lv E b i)) (K : ∀ (d2 : z_D) (H1 : Heap) (locs1 : List Loc), z_I S d2 rf → z_H E (S, d2) H1 → va_S (z_A E) s.heap H1 locs1 → W p l e room_1 s m #[Value.ref b] below meth c H1 locs1 k n Q (F0 m 1405 ls [])) : W p l e room_1 s m #[Value.ref b] below meth c H locs k n Q (F0 m 600 ls []) := by
  obtain ⟨hBT, hrf, hMd, hou, hRc, hz⟩ := id hI
  obtain ⟨v, ev, w, ew, hvw, hz2⟩ := z_grace hz (Nat.le_refl _) (xs (i + 1))
  refine lv_aload_n F.1.1 F.1.2.1 dL_law_600 rfl (lv_at hl 1 rfl) ?_
  refine lw_arg 1 rfl F hl rfl rfl (by omega) hS 607 rfl dL_law_601 dL_law_602 dL_law_604 dL_law_605 dL_law_606 ?_
  refine lw_call0 F (c_X8_grace (E := E) (l := l) (S := S) d 0 hBT (xs (i + 1))) ev ok_X8_grace ⟨Nat.le_of_ble_eq_true rfl, Nat.le_of_ble_eq_true rfl⟩ hkn ⟨rfl, rfl⟩ (hBT.1 0 (Nat.le_of_ble_eq_true rfl)) (Nat.le_of_ble_eq_true rfl) rfl rfl rfl (Nat.le_of_ble_eq_true rfl) gL_law_X8_grace hH hS hl 610 rfl dL_law_607 [.int v.1] rfl (S, v.2) rfl (fun H1 locs1 hH1 hS1 => ?_)
  refine lv_aload_n F.1.1 F.1.2.1 dL_law_610 rfl (lv_at hl 2 rfl) ?_
  refine lw_arg 1 rfl F hl rfl rfl (by omega) hS1 617 rfl dL_law_611 dL_law_612 dL_law_614 dL_law_615 dL_law_616 ?_
  refine lw_call0 F (c_X9_grace (E := E) (l := l) (S := S) v.2 355 hMd (xs (i + 1))) ew ok_X9_grace ⟨Nat.le_of_ble_eq_true rfl, Nat.le_of_ble_eq_true rfl⟩ hkn ⟨rfl, rfl⟩ (hMd 0 (Nat.le_of_ble_eq_true rfl)) (Nat.le_of_ble_eq_true rfl) rfl rfl rfl (Nat.le_of_ble_eq_true rfl) gL_law_X9_grace hH1 hS1 hl 620 rfl dL_law_617 [.int w.1, .int v.1] rfl (S, w.2) rfl (fun H2 locs2 hH2 hS2 => ?_)
  exact lv_icmp_eq (tgt := 1405) F.1.1 F.1.2.1 dL_law_620 (by decide) (fun _ => K _ _ _ ⟨hBT, hrf, hMd, hou, hRc, hz2⟩ hH2 hS2) (fun hc => absurd hvw hc)
theorem lc_quit (F : lw_C E p s m c b L xs) (hI : z_I S d rf) (hi : i + 6 ≤ L) (hkn : k ≤ room_1.cells ∧ n ≤ room_1.slots) (hH : z_H E (S, d) H) (hS : va_S (z_A E) s.heap H locs) (hl : lv_has ls 7 (lw_lv E b i)) (K : ∀ (d2 : z_D) (H1 : Heap) (locs1 : List Loc), z_I S d2 rf → z_H E (S, d2) H1 → va_S (z_A E) s.heap H1 locs1 → W p l e room_1 s m #[Value.ref b] below meth c H1 locs1 k n Q (F0 m 1405 ls [])) : W p l e room_1 s m #[Value.ref b] below meth c H locs k n Q (F0 m 625 ls []) := by
  obtain ⟨hBT, hrf, hMd, hou, hRc, hz⟩ := id hI
  obtain ⟨v, ev, w, ew, hvw, hz2⟩ := z_quit hz (Nat.le_refl _) (xs (i + 1))
  refine lv_aload_n F.1.1 F.1.2.1 dL_law_625 rfl (lv_at hl 1 rfl) ?_
  refine lw_arg 1 rfl F hl rfl rfl (by omega) hS 632 rfl dL_law_626 dL_law_627 dL_law_629 dL_law_630 dL_law_631 ?_
  refine lw_call0 F (c_X8_quit (E := E) (l := l) (S := S) d 0 hBT (xs (i + 1))) ev ok_X8_quit ⟨Nat.le_of_ble_eq_true rfl, Nat.le_of_ble_eq_true rfl⟩ hkn ⟨rfl, rfl⟩ (hBT.1 0 (Nat.le_of_ble_eq_true rfl)) (Nat.le_of_ble_eq_true rfl) rfl rfl rfl (Nat.le_of_ble_eq_true rfl) gL_law_X8_quit hH hS hl 635 rfl dL_law_632 [.int v.1] rfl (S, v.2) rfl (fun H1 locs1 hH1 hS1 => ?_)
  refine lv_aload_n F.1.1 F.1.2.1 dL_law_635 rfl (lv_at hl 2 rfl) ?_
  refine lw_arg 1 rfl F hl rfl rfl (by omega) hS1 642 rfl dL_law_636 dL_law_637 dL_law_639 dL_law_640 dL_law_641 ?_
  refine lw_call0 F (c_X9_quit (E := E) (l := l) (S := S) v.2 355 hMd (xs (i + 1))) ew ok_X9_quit ⟨Nat.le_of_ble_eq_true rfl, Nat.le_of_ble_eq_true rfl⟩ hkn ⟨rfl, rfl⟩ (hMd 0 (Nat.le_of_ble_eq_true rfl)) (Nat.le_of_ble_eq_true rfl) rfl rfl rfl (Nat.le_of_ble_eq_true rfl) gL_law_X9_quit hH1 hS1 hl 645 rfl dL_law_642 [.int w.1, .int v.1] rfl (S, w.2) rfl (fun H2 locs2 hH2 hS2 => ?_)
  exact lv_icmp_eq (tgt := 1405) F.1.1 F.1.2.1 dL_law_645 (by decide) (fun _ => K _ _ _ ⟨hBT, hrf, hMd, hou, hRc, hz2⟩ hH2 hS2) (fun hc => absurd hvw hc)
theorem lc_rule (F : lw_C E p s m c b L xs) (hI : z_I S d rf) (hi : i + 6 ≤ L) (hkn : k ≤ room_1.cells ∧ n ≤ room_1.slots) (hH : z_H E (S, d) H) (hS : va_S (z_A E) s.heap H locs) (hl : lv_has ls 7 (lw_lv E b i)) (K : ∀ (d2 : z_D) (H1 : Heap) (locs1 : List Loc), z_I S d2 rf → z_H E (S, d2) H1 → va_S (z_A E) s.heap H1 locs1 → W p l e room_1 s m #[Value.ref b] below meth c H1 locs1 k n Q (F0 m 1405 ls [])) : W p l e room_1 s m #[Value.ref b] below meth c H locs k n Q (F0 m 650 ls []) := by
  obtain ⟨hBT, hrf, hMd, hou, hRc, hz⟩ := id hI
  obtain ⟨v, ev, w, ew, hvw, hz2⟩ := z_rule hz (Nat.le_refl _) (xs (i + 1)) (xs (i + 2))
  refine lv_aload_n F.1.1 F.1.2.1 dL_law_650 rfl (lv_at hl 1 rfl) ?_
  refine lw_arg 1 rfl F hl rfl rfl (by omega) hS 657 rfl dL_law_651 dL_law_652 dL_law_654 dL_law_655 dL_law_656 ?_
  refine lw_arg 2 rfl F hl rfl rfl (by omega) hS 663 rfl dL_law_657 dL_law_658 dL_law_660 dL_law_661 dL_law_662 ?_
  refine lw_call0 F (c_X8_rule (E := E) (l := l) (S := S) d 0 hBT (xs (i + 1)) (xs (i + 2))) ev ok_X8_rule ⟨Nat.le_of_ble_eq_true rfl, Nat.le_of_ble_eq_true rfl⟩ hkn ⟨rfl, rfl⟩ (hBT.1 0 (Nat.le_of_ble_eq_true rfl)) (Nat.le_of_ble_eq_true rfl) rfl rfl rfl (Nat.le_of_ble_eq_true rfl) gL_law_X8_rule hH hS hl 666 rfl dL_law_663 [.int v.1] rfl (S, v.2) rfl (fun H1 locs1 hH1 hS1 => ?_)
  refine lv_aload_n F.1.1 F.1.2.1 dL_law_666 rfl (lv_at hl 2 rfl) ?_
  refine lw_arg 1 rfl F hl rfl rfl (by omega) hS1 673 rfl dL_law_667 dL_law_668 dL_law_670 dL_law_671 dL_law_672 ?_
  refine lw_arg 2 rfl F hl rfl rfl (by omega) hS1 679 rfl dL_law_673 dL_law_674 dL_law_676 dL_law_677 dL_law_678 ?_
  refine lw_call0 F (c_X9_rule (E := E) (l := l) (S := S) v.2 355 hMd (xs (i + 1)) (xs (i + 2))) ew ok_X9_rule ⟨Nat.le_of_ble_eq_true rfl, Nat.le_of_ble_eq_true rfl⟩ hkn ⟨rfl, rfl⟩ (hMd 0 (Nat.le_of_ble_eq_true rfl)) (Nat.le_of_ble_eq_true rfl) rfl rfl rfl (Nat.le_of_ble_eq_true rfl) gL_law_X9_rule hH1 hS1 hl 682 rfl dL_law_679 [.int w.1, .int v.1] rfl (S, w.2) rfl (fun H2 locs2 hH2 hS2 => ?_)
  exact lv_icmp_eq (tgt := 1405) F.1.1 F.1.2.1 dL_law_682 (by decide) (fun _ => K _ _ _ ⟨hBT, hrf, hMd, hou, hRc, hz2⟩ hH2 hS2) (fun hc => absurd hvw hc)
theorem lc_close (F : lw_C E p s m c b L xs) (hI : z_I S d rf) (hi : i + 6 ≤ L) (hkn : k ≤ room_1.cells ∧ n ≤ room_1.slots) (hH : z_H E (S, d) H) (hS : va_S (z_A E) s.heap H locs) (hl : lv_has ls 7 (lw_lv E b i)) (K : ∀ (d2 : z_D) (H1 : Heap) (locs1 : List Loc), z_I S d2 rf → z_H E (S, d2) H1 → va_S (z_A E) s.heap H1 locs1 → W p l e room_1 s m #[Value.ref b] below meth c H1 locs1 k n Q (F0 m 1405 ls [])) : W p l e room_1 s m #[Value.ref b] below meth c H locs k n Q (F0 m 687 ls []) := by
  obtain ⟨hBT, hrf, hMd, hou, hRc, hz⟩ := id hI
  obtain ⟨v, ev, w, ew, hvw, hz2⟩ := z_close hz (Nat.le_refl _) 
  refine lv_aload_n F.1.1 F.1.2.1 dL_law_687 rfl (lv_at hl 1 rfl) ?_
  refine lw_call0 F (c_X8_close (E := E) (l := l) (S := S) d 0 hBT ) ev ok_X8_close ⟨Nat.le_of_ble_eq_true rfl, Nat.le_of_ble_eq_true rfl⟩ hkn ⟨rfl, rfl⟩ (hBT.1 0 (Nat.le_of_ble_eq_true rfl)) (Nat.le_of_ble_eq_true rfl) rfl rfl rfl (Nat.le_of_ble_eq_true rfl) gL_law_X8_close hH hS hl 691 rfl dL_law_688 [.int v.1] rfl (S, v.2) rfl (fun H1 locs1 hH1 hS1 => ?_)
  refine lv_aload_n F.1.1 F.1.2.1 dL_law_691 rfl (lv_at hl 2 rfl) ?_
  refine lw_call0 F (c_X9_close (E := E) (l := l) (S := S) v.2 355 hMd ) ew ok_X9_close ⟨Nat.le_of_ble_eq_true rfl, Nat.le_of_ble_eq_true rfl⟩ hkn ⟨rfl, rfl⟩ (hMd 0 (Nat.le_of_ble_eq_true rfl)) (Nat.le_of_ble_eq_true rfl) rfl rfl rfl (Nat.le_of_ble_eq_true rfl) gL_law_X9_close hH1 hS1 hl 695 rfl dL_law_692 [.int w.1, .int v.1] rfl (S, w.2) rfl (fun H2 locs2 hH2 hS2 => ?_)
  exact lv_icmp_eq (tgt := 1405) F.1.1 F.1.2.1 dL_law_695 (by decide) (fun _ => K _ _ _ ⟨hBT, hrf, hMd, hou, hRc, hz2⟩ hH2 hS2) (fun hc => absurd hvw hc)
theorem lc_count (F : lw_C E p s m c b L xs) (hI : z_I S d rf) (hi : i + 6 ≤ L) (hkn : k ≤ room_1.cells ∧ n ≤ room_1.slots) (hH : z_H E (S, d) H) (hS : va_S (z_A E) s.heap H locs) (hl : lv_has ls 7 (lw_lv E b i)) (K : ∀ (d2 : z_D) (H1 : Heap) (locs1 : List Loc), z_I S d2 rf → z_H E (S, d2) H1 → va_S (z_A E) s.heap H1 locs1 → W p l e room_1 s m #[Value.ref b] below meth c H1 locs1 k n Q (F0 m 1405 ls [])) : W p l e room_1 s m #[Value.ref b] below meth c H locs k n Q (F0 m 750 ls []) := by
  obtain ⟨hBT, hrf, hMd, hou, hRc, hz⟩ := id hI
  obtain ⟨v, ev, w, ew, hvw, hz2⟩ := z_count hz (Nat.le_refl _) (xs (i + 1))
  refine lv_aload_n F.1.1 F.1.2.1 dL_law_750 rfl (lv_at hl 1 rfl) ?_
  refine lw_arg 1 rfl F hl rfl rfl (by omega) hS 757 rfl dL_law_751 dL_law_752 dL_law_754 dL_law_755 dL_law_756 ?_
  refine lw_call0 F (c_X8_count (E := E) (l := l) (S := S) d 0 hBT (xs (i + 1))) ev ok_X8_count ⟨Nat.le_of_ble_eq_true rfl, Nat.le_of_ble_eq_true rfl⟩ hkn ⟨rfl, rfl⟩ (hBT.1 0 (Nat.le_of_ble_eq_true rfl)) (Nat.le_of_ble_eq_true rfl) rfl rfl rfl (Nat.le_of_ble_eq_true rfl) gL_law_X8_count hH hS hl 760 rfl dL_law_757 [.int v] rfl (S, d) rfl (fun H1 locs1 hH1 hS1 => ?_)
  refine lv_aload_n F.1.1 F.1.2.1 dL_law_760 rfl (lv_at hl 2 rfl) ?_
  refine lw_arg 1 rfl F hl rfl rfl (by omega) hS1 767 rfl dL_law_761 dL_law_762 dL_law_764 dL_law_765 dL_law_766 ?_
  refine lw_call0 F (c_X9_count (E := E) (l := l) (S := S) d 355 hMd (xs (i + 1))) ew ok_X9_count ⟨Nat.le_of_ble_eq_true rfl, Nat.le_of_ble_eq_true rfl⟩ hkn ⟨rfl, rfl⟩ (hMd 0 (Nat.le_of_ble_eq_true rfl)) (Nat.le_of_ble_eq_true rfl) rfl rfl rfl (Nat.le_of_ble_eq_true rfl) gL_law_X9_count hH1 hS1 hl 770 rfl dL_law_767 [.int w.1, .int v] rfl (S, w.2) rfl (fun H2 locs2 hH2 hS2 => ?_)
  exact lv_icmp_eq (tgt := 1405) F.1.1 F.1.2.1 dL_law_770 (by decide) (fun _ => K _ _ _ ⟨hBT, hrf, hMd, hou, hRc, hz2⟩ hH2 hS2) (fun hc => absurd hvw hc)
theorem lc_told (F : lw_C E p s m c b L xs) (hI : z_I S d rf) (hi : i + 6 ≤ L) (hkn : k ≤ room_1.cells ∧ n ≤ room_1.slots) (hH : z_H E (S, d) H) (hS : va_S (z_A E) s.heap H locs) (hl : lv_has ls 7 (lw_lv E b i)) (K : ∀ (d2 : z_D) (H1 : Heap) (locs1 : List Loc), z_I S d2 rf → z_H E (S, d2) H1 → va_S (z_A E) s.heap H1 locs1 → W p l e room_1 s m #[Value.ref b] below meth c H1 locs1 k n Q (F0 m 1405 ls [])) : W p l e room_1 s m #[Value.ref b] below meth c H locs k n Q (F0 m 843 ls []) := by
  obtain ⟨hBT, hrf, hMd, hou, hRc, hz⟩ := id hI
  obtain ⟨v, ev, w, ew, hvw, hz2⟩ := z_told hz (Nat.le_refl _) (xs (i + 1)) (xs (i + 2))
  refine lv_aload_n F.1.1 F.1.2.1 dL_law_843 rfl (lv_at hl 1 rfl) ?_
  refine lw_arg 1 rfl F hl rfl rfl (by omega) hS 850 rfl dL_law_844 dL_law_845 dL_law_847 dL_law_848 dL_law_849 ?_
  refine lw_arg 2 rfl F hl rfl rfl (by omega) hS 856 rfl dL_law_850 dL_law_851 dL_law_853 dL_law_854 dL_law_855 ?_
  refine lw_call0 F (c_X8_told (E := E) (l := l) (S := S) d 0 hBT (xs (i + 1)) (xs (i + 2))) ev ok_X8_told ⟨Nat.le_of_ble_eq_true rfl, Nat.le_of_ble_eq_true rfl⟩ hkn ⟨rfl, rfl⟩ (hBT.1 0 (Nat.le_of_ble_eq_true rfl)) (Nat.le_of_ble_eq_true rfl) rfl rfl rfl (Nat.le_of_ble_eq_true rfl) gL_law_X8_told hH hS hl 859 rfl dL_law_856 [.int v] rfl (S, d) rfl (fun H1 locs1 hH1 hS1 => ?_)
  refine lv_aload_n F.1.1 F.1.2.1 dL_law_859 rfl (lv_at hl 2 rfl) ?_
  refine lw_arg 1 rfl F hl rfl rfl (by omega) hS1 866 rfl dL_law_860 dL_law_861 dL_law_863 dL_law_864 dL_law_865 ?_
  refine lw_arg 2 rfl F hl rfl rfl (by omega) hS1 872 rfl dL_law_866 dL_law_867 dL_law_869 dL_law_870 dL_law_871 ?_
  refine lw_call0 F (c_X9_told (E := E) (l := l) (S := S) d 355 hMd (xs (i + 1)) (xs (i + 2))) ew ok_X9_told ⟨Nat.le_of_ble_eq_true rfl, Nat.le_of_ble_eq_true rfl⟩ hkn ⟨rfl, rfl⟩ (hMd 0 (Nat.le_of_ble_eq_true rfl)) (Nat.le_of_ble_eq_true rfl) rfl rfl rfl (Nat.le_of_ble_eq_true rfl) gL_law_X9_told hH1 hS1 hl 875 rfl dL_law_872 [.int w.1, .int v] rfl (S, w.2) rfl (fun H2 locs2 hH2 hS2 => ?_)
  exact lv_icmp_eq (tgt := 1405) F.1.1 F.1.2.1 dL_law_875 (by decide) (fun _ => K _ _ _ ⟨hBT, hrf, hMd, hou, hRc, hz2⟩ hH2 hS2) (fun hc => absurd hvw hc)
theorem lc_order (F : lw_C E p s m c b L xs) (hI : z_I S d rf) (hi : i + 6 ≤ L) (hkn : k ≤ room_1.cells ∧ n ≤ room_1.slots) (hH : z_H E (S, d) H) (hS : va_S (z_A E) s.heap H locs) (hl : lv_has ls 7 (lw_lv E b i)) (K : ∀ (d2 : z_D) (H1 : Heap) (locs1 : List Loc), z_I S d2 rf → z_H E (S, d2) H1 → va_S (z_A E) s.heap H1 locs1 → W p l e room_1 s m #[Value.ref b] below meth c H1 locs1 k n Q (F0 m 1405 ls [])) : W p l e room_1 s m #[Value.ref b] below meth c H locs k n Q (F0 m 880 ls []) := by
  obtain ⟨hBT, hrf, hMd, hou, hRc, hz⟩ := id hI
  obtain ⟨v, ev, w, ew, hvw, hz2⟩ := z_order hz (Nat.le_refl _) (xs (i + 1)) (xs (i + 2))
  refine lv_aload_n F.1.1 F.1.2.1 dL_law_880 rfl (lv_at hl 1 rfl) ?_
  refine lw_arg 1 rfl F hl rfl rfl (by omega) hS 887 rfl dL_law_881 dL_law_882 dL_law_884 dL_law_885 dL_law_886 ?_
  refine lw_arg 2 rfl F hl rfl rfl (by omega) hS 893 rfl dL_law_887 dL_law_888 dL_law_890 dL_law_891 dL_law_892 ?_
  refine lw_call0 F (c_X8_order (E := E) (l := l) (S := S) d 0 hBT (xs (i + 1)) (xs (i + 2))) ev ok_X8_order ⟨Nat.le_of_ble_eq_true rfl, Nat.le_of_ble_eq_true rfl⟩ hkn ⟨rfl, rfl⟩ (hBT.1 0 (Nat.le_of_ble_eq_true rfl)) (Nat.le_of_ble_eq_true rfl) rfl rfl rfl (Nat.le_of_ble_eq_true rfl) gL_law_X8_order hH hS hl 896 rfl dL_law_893 [.int v] rfl (S, d) rfl (fun H1 locs1 hH1 hS1 => ?_)
  refine lv_aload_n F.1.1 F.1.2.1 dL_law_896 rfl (lv_at hl 2 rfl) ?_
  refine lw_arg 1 rfl F hl rfl rfl (by omega) hS1 903 rfl dL_law_897 dL_law_898 dL_law_900 dL_law_901 dL_law_902 ?_
  refine lw_arg 2 rfl F hl rfl rfl (by omega) hS1 909 rfl dL_law_903 dL_law_904 dL_law_906 dL_law_907 dL_law_908 ?_
  refine lw_call0 F (c_X9_order (E := E) (l := l) (S := S) d 355 hMd (xs (i + 1)) (xs (i + 2))) ew ok_X9_order ⟨Nat.le_of_ble_eq_true rfl, Nat.le_of_ble_eq_true rfl⟩ hkn ⟨rfl, rfl⟩ (hMd 0 (Nat.le_of_ble_eq_true rfl)) (Nat.le_of_ble_eq_true rfl) rfl rfl rfl (Nat.le_of_ble_eq_true rfl) gL_law_X9_order hH1 hS1 hl 912 rfl dL_law_909 [.int w.1, .int v] rfl (S, w.2) rfl (fun H2 locs2 hH2 hS2 => ?_)
  exact lv_icmp_eq (tgt := 1405) F.1.1 F.1.2.1 dL_law_912 (by decide) (fun _ => K _ _ _ ⟨hBT, hrf, hMd, hou, hRc, hz2⟩ hH2 hS2) (fun hc => absurd hvw hc)
theorem lc_result (F : lw_C E p s m c b L xs) (hI : z_I S d rf) (hi : i + 6 ≤ L) (hkn : k ≤ room_1.cells ∧ n ≤ room_1.slots) (hH : z_H E (S, d) H) (hS : va_S (z_A E) s.heap H locs) (hl : lv_has ls 7 (lw_lv E b i)) (K : ∀ (d2 : z_D) (H1 : Heap) (locs1 : List Loc), z_I S d2 rf → z_H E (S, d2) H1 → va_S (z_A E) s.heap H1 locs1 → W p l e room_1 s m #[Value.ref b] below meth c H1 locs1 k n Q (F0 m 1405 ls [])) : W p l e room_1 s m #[Value.ref b] below meth c H locs k n Q (F0 m 917 ls []) := by
  obtain ⟨hBT, hrf, hMd, hou, hRc, hz⟩ := id hI
  obtain ⟨v, ev, w, ew, hvw, hz2⟩ := z_result hz (Nat.le_refl _) (xs (i + 1)) (xs (i + 2)) (xs (i + 3))
  refine lv_aload_n F.1.1 F.1.2.1 dL_law_917 rfl (lv_at hl 1 rfl) ?_
  refine lw_arg 1 rfl F hl rfl rfl (by omega) hS 924 rfl dL_law_918 dL_law_919 dL_law_921 dL_law_922 dL_law_923 ?_
  refine lw_arg 2 rfl F hl rfl rfl (by omega) hS 930 rfl dL_law_924 dL_law_925 dL_law_927 dL_law_928 dL_law_929 ?_
  refine lw_arg 3 rfl F hl rfl rfl (by omega) hS 936 rfl dL_law_930 dL_law_931 dL_law_933 dL_law_934 dL_law_935 ?_
  refine lw_call0 F (c_X8_result (E := E) (l := l) (S := S) d 0 hBT (xs (i + 1)) (xs (i + 2)) (xs (i + 3))) ev ok_X8_result ⟨Nat.le_of_ble_eq_true rfl, Nat.le_of_ble_eq_true rfl⟩ hkn ⟨rfl, rfl⟩ (hBT.1 0 (Nat.le_of_ble_eq_true rfl)) (Nat.le_of_ble_eq_true rfl) rfl rfl rfl (Nat.le_of_ble_eq_true rfl) gL_law_X8_result hH hS hl 939 rfl dL_law_936 [.int v] rfl (S, d) rfl (fun H1 locs1 hH1 hS1 => ?_)
  refine lv_aload_n F.1.1 F.1.2.1 dL_law_939 rfl (lv_at hl 2 rfl) ?_
  refine lw_arg 1 rfl F hl rfl rfl (by omega) hS1 946 rfl dL_law_940 dL_law_941 dL_law_943 dL_law_944 dL_law_945 ?_
  refine lw_arg 2 rfl F hl rfl rfl (by omega) hS1 952 rfl dL_law_946 dL_law_947 dL_law_949 dL_law_950 dL_law_951 ?_
  refine lw_arg 3 rfl F hl rfl rfl (by omega) hS1 958 rfl dL_law_952 dL_law_953 dL_law_955 dL_law_956 dL_law_957 ?_
  refine lw_call0 F (c_X9_result (E := E) (l := l) (S := S) d 355 hMd (xs (i + 1)) (xs (i + 2)) (xs (i + 3))) ew ok_X9_result ⟨Nat.le_of_ble_eq_true rfl, Nat.le_of_ble_eq_true rfl⟩ hkn ⟨rfl, rfl⟩ (hMd 0 (Nat.le_of_ble_eq_true rfl)) (Nat.le_of_ble_eq_true rfl) rfl rfl rfl (Nat.le_of_ble_eq_true rfl) gL_law_X9_result hH1 hS1 hl 961 rfl dL_law_958 [.int w.1, .int v] rfl (S, w.2) rfl (fun H2 locs2 hH2 hS2 => ?_)
  exact lv_icmp_eq (tgt := 1405) F.1.1 F.1.2.1 dL_law_961 (by decide) (fun _ => K _ _ _ ⟨hBT, hrf, hMd, hou, hRc, hz2⟩ hH2 hS2) (fun hc => absurd hvw hc)
theorem lc_parted (F : lw_C E p s m c b L xs) (hI : z_I S d rf) (hi : i + 6 ≤ L) (hkn : k ≤ room_1.cells ∧ n ≤ room_1.slots) (hH : z_H E (S, d) H) (hS : va_S (z_A E) s.heap H locs) (hl : lv_has ls 7 (lw_lv E b i)) (K : ∀ (d2 : z_D) (H1 : Heap) (locs1 : List Loc), z_I S d2 rf → z_H E (S, d2) H1 → va_S (z_A E) s.heap H1 locs1 → W p l e room_1 s m #[Value.ref b] below meth c H1 locs1 k n Q (F0 m 1405 ls [])) : W p l e room_1 s m #[Value.ref b] below meth c H locs k n Q (F0 m 966 ls []) := by
  obtain ⟨hBT, hrf, hMd, hou, hRc, hz⟩ := id hI
  obtain ⟨v, ev, w, ew, hvw, hz2⟩ := z_parted hz (Nat.le_refl _) (xs (i + 1)) (xs (i + 2))
  refine lv_aload_n F.1.1 F.1.2.1 dL_law_966 rfl (lv_at hl 1 rfl) ?_
  refine lw_arg 1 rfl F hl rfl rfl (by omega) hS 973 rfl dL_law_967 dL_law_968 dL_law_970 dL_law_971 dL_law_972 ?_
  refine lw_arg 2 rfl F hl rfl rfl (by omega) hS 979 rfl dL_law_973 dL_law_974 dL_law_976 dL_law_977 dL_law_978 ?_
  refine lw_call0 F (c_X8_parted (E := E) (l := l) (S := S) d 0 hBT (xs (i + 1)) (xs (i + 2))) ev ok_X8_parted ⟨Nat.le_of_ble_eq_true rfl, Nat.le_of_ble_eq_true rfl⟩ hkn ⟨rfl, rfl⟩ (hBT.1 0 (Nat.le_of_ble_eq_true rfl)) (Nat.le_of_ble_eq_true rfl) rfl rfl rfl (Nat.le_of_ble_eq_true rfl) gL_law_X8_parted hH hS hl 982 rfl dL_law_979 [.int v] rfl (S, d) rfl (fun H1 locs1 hH1 hS1 => ?_)
  refine lv_aload_n F.1.1 F.1.2.1 dL_law_982 rfl (lv_at hl 2 rfl) ?_
  refine lw_arg 1 rfl F hl rfl rfl (by omega) hS1 989 rfl dL_law_983 dL_law_984 dL_law_986 dL_law_987 dL_law_988 ?_
  refine lw_arg 2 rfl F hl rfl rfl (by omega) hS1 995 rfl dL_law_989 dL_law_990 dL_law_992 dL_law_993 dL_law_994 ?_
  refine lw_call0 F (c_X9_parted (E := E) (l := l) (S := S) d 355 hMd (xs (i + 1)) (xs (i + 2))) ew ok_X9_parted ⟨Nat.le_of_ble_eq_true rfl, Nat.le_of_ble_eq_true rfl⟩ hkn ⟨rfl, rfl⟩ (hMd 0 (Nat.le_of_ble_eq_true rfl)) (Nat.le_of_ble_eq_true rfl) rfl rfl rfl (Nat.le_of_ble_eq_true rfl) gL_law_X9_parted hH1 hS1 hl 998 rfl dL_law_995 [.int w.1, .int v] rfl (S, w.2) rfl (fun H2 locs2 hH2 hS2 => ?_)
  exact lv_icmp_eq (tgt := 1405) F.1.1 F.1.2.1 dL_law_998 (by decide) (fun _ => K _ _ _ ⟨hBT, hrf, hMd, hou, hRc, hz2⟩ hH2 hS2) (fun hc => absurd hvw hc)
theorem lc_together (F : lw_C E p s m c b L xs) (hI : z_I S d rf) (hi : i + 6 ≤ L) (hkn : k ≤ room_1.cells ∧ n ≤ room_1.slots) (hH : z_H E (S, d) H) (hS : va_S (z_A E) s.heap H locs) (hl : lv_has ls 7 (lw_lv E b i)) (K : ∀ (d2 : z_D) (H1 : Heap) (locs1 : List Loc), z_I S d2 rf → z_H E (S, d2) H1 → va_S (z_A E) s.heap H1 locs1 → W p l e room_1 s m #[Value.ref b] below meth c H1 locs1 k n Q (F0 m 1405 ls [])) : W p l e room_1 s m #[Value.ref b] below meth c H locs k n Q (F0 m 1003 ls []) := by
  obtain ⟨hBT, hrf, hMd, hou, hRc, hz⟩ := id hI
  obtain ⟨v, ev, w, ew, hvw, hz2⟩ := z_together hz (Nat.le_refl _) (xs (i + 1))
  refine lv_aload_n F.1.1 F.1.2.1 dL_law_1003 rfl (lv_at hl 1 rfl) ?_
  refine lw_arg 1 rfl F hl rfl rfl (by omega) hS 1010 rfl dL_law_1004 dL_law_1005 dL_law_1007 dL_law_1008 dL_law_1009 ?_
  refine lw_call0 F (c_X8_together (E := E) (l := l) (S := S) d 0 hBT (xs (i + 1))) ev ok_X8_together ⟨Nat.le_of_ble_eq_true rfl, Nat.le_of_ble_eq_true rfl⟩ hkn ⟨rfl, rfl⟩ (hBT.1 0 (Nat.le_of_ble_eq_true rfl)) (Nat.le_of_ble_eq_true rfl) rfl rfl rfl (Nat.le_of_ble_eq_true rfl) gL_law_X8_together hH hS hl 1013 rfl dL_law_1010 [.int v] rfl (S, d) rfl (fun H1 locs1 hH1 hS1 => ?_)
  refine lv_aload_n F.1.1 F.1.2.1 dL_law_1013 rfl (lv_at hl 2 rfl) ?_
  refine lw_arg 1 rfl F hl rfl rfl (by omega) hS1 1020 rfl dL_law_1014 dL_law_1015 dL_law_1017 dL_law_1018 dL_law_1019 ?_
  refine lw_call0 F (c_X9_together (E := E) (l := l) (S := S) d 355 hMd (xs (i + 1))) ew ok_X9_together ⟨Nat.le_of_ble_eq_true rfl, Nat.le_of_ble_eq_true rfl⟩ hkn ⟨rfl, rfl⟩ (hMd 0 (Nat.le_of_ble_eq_true rfl)) (Nat.le_of_ble_eq_true rfl) rfl rfl rfl (Nat.le_of_ble_eq_true rfl) gL_law_X9_together hH1 hS1 hl 1023 rfl dL_law_1020 [.int w.1, .int v] rfl (S, w.2) rfl (fun H2 locs2 hH2 hS2 => ?_)
  exact lv_icmp_eq (tgt := 1405) F.1.1 F.1.2.1 dL_law_1023 (by decide) (fun _ => K _ _ _ ⟨hBT, hrf, hMd, hou, hRc, hz2⟩ hH2 hS2) (fun hc => absurd hvw hc)
theorem lc_escaped (F : lw_C E p s m c b L xs) (hI : z_I S d rf) (hi : i + 6 ≤ L) (hkn : k ≤ room_1.cells ∧ n ≤ room_1.slots) (hH : z_H E (S, d) H) (hS : va_S (z_A E) s.heap H locs) (hl : lv_has ls 7 (lw_lv E b i)) (K : ∀ (d2 : z_D) (H1 : Heap) (locs1 : List Loc), z_I S d2 rf → z_H E (S, d2) H1 → va_S (z_A E) s.heap H1 locs1 → W p l e room_1 s m #[Value.ref b] below meth c H1 locs1 k n Q (F0 m 1405 ls [])) : W p l e room_1 s m #[Value.ref b] below meth c H locs k n Q (F0 m 1028 ls []) := by
  obtain ⟨hBT, hrf, hMd, hou, hRc, hz⟩ := id hI
  obtain ⟨v, ev, w, ew, hvw, hz2⟩ := z_escaped hz (Nat.le_refl _) (xs (i + 1))
  refine lv_aload_n F.1.1 F.1.2.1 dL_law_1028 rfl (lv_at hl 1 rfl) ?_
  refine lw_arg 1 rfl F hl rfl rfl (by omega) hS 1035 rfl dL_law_1029 dL_law_1030 dL_law_1032 dL_law_1033 dL_law_1034 ?_
  refine lw_call0 F (c_X8_escaped (E := E) (l := l) (S := S) d 0 hBT (xs (i + 1))) ev ok_X8_escaped ⟨Nat.le_of_ble_eq_true rfl, Nat.le_of_ble_eq_true rfl⟩ hkn ⟨rfl, rfl⟩ (hBT.1 0 (Nat.le_of_ble_eq_true rfl)) (Nat.le_of_ble_eq_true rfl) rfl rfl rfl (Nat.le_of_ble_eq_true rfl) gL_law_X8_escaped hH hS hl 1038 rfl dL_law_1035 [.int v] rfl (S, d) rfl (fun H1 locs1 hH1 hS1 => ?_)
  refine lv_aload_n F.1.1 F.1.2.1 dL_law_1038 rfl (lv_at hl 2 rfl) ?_
  refine lw_arg 1 rfl F hl rfl rfl (by omega) hS1 1045 rfl dL_law_1039 dL_law_1040 dL_law_1042 dL_law_1043 dL_law_1044 ?_
  refine lw_call0 F (c_X9_escaped (E := E) (l := l) (S := S) d 355 hMd (xs (i + 1))) ew ok_X9_escaped ⟨Nat.le_of_ble_eq_true rfl, Nat.le_of_ble_eq_true rfl⟩ hkn ⟨rfl, rfl⟩ (hMd 0 (Nat.le_of_ble_eq_true rfl)) (Nat.le_of_ble_eq_true rfl) rfl rfl rfl (Nat.le_of_ble_eq_true rfl) gL_law_X9_escaped hH1 hS1 hl 1048 rfl dL_law_1045 [.int w.1, .int v] rfl (S, w.2) rfl (fun H2 locs2 hH2 hS2 => ?_)
  exact lv_icmp_eq (tgt := 1405) F.1.1 F.1.2.1 dL_law_1048 (by decide) (fun _ => K _ _ _ ⟨hBT, hrf, hMd, hou, hRc, hz2⟩ hH2 hS2) (fun hc => absurd hvw hc)
theorem lc_list (F : lw_C E p s m c b L xs) (hI : z_I S d rf) (hi : i + 6 ≤ L) (hkn : k ≤ room_1.cells ∧ n ≤ room_1.slots) (hH : z_H E (S, d) H) (hS : va_S (z_A E) s.heap H locs) (hl : lv_has ls 7 (lw_lv E b i)) (K : ∀ (d2 : z_D) (H1 : Heap) (locs1 : List Loc), z_I S d2 rf → z_H E (S, d2) H1 → va_S (z_A E) s.heap H1 locs1 → W p l e room_1 s m #[Value.ref b] below meth c H1 locs1 k n Q (F0 m 1405 ls [])) : W p l e room_1 s m #[Value.ref b] below meth c H locs k n Q (F0 m 1053 ls []) := by
  obtain ⟨hBT, hrf, hMd, hou, hRc, hz⟩ := id hI
  obtain ⟨v, ev, w, ew, hvw, hz2⟩ := z_list hz (Nat.le_refl _) (xs (i + 1)) (xs (i + 2))
  refine lv_aload_n F.1.1 F.1.2.1 dL_law_1053 rfl (lv_at hl 1 rfl) ?_
  refine lw_arg 1 rfl F hl rfl rfl (by omega) hS 1060 rfl dL_law_1054 dL_law_1055 dL_law_1057 dL_law_1058 dL_law_1059 ?_
  refine lw_arg 2 rfl F hl rfl rfl (by omega) hS 1066 rfl dL_law_1060 dL_law_1061 dL_law_1063 dL_law_1064 dL_law_1065 ?_
  refine lw_call0 F (c_X8_list (E := E) (l := l) (S := S) d 0 hBT (xs (i + 1)) (xs (i + 2))) ev ok_X8_list ⟨Nat.le_of_ble_eq_true rfl, Nat.le_of_ble_eq_true rfl⟩ hkn ⟨rfl, rfl⟩ (hBT.1 0 (Nat.le_of_ble_eq_true rfl)) (Nat.le_of_ble_eq_true rfl) rfl rfl rfl (Nat.le_of_ble_eq_true rfl) gL_law_X8_list hH hS hl 1069 rfl dL_law_1066 [.int v.1] rfl (S, v.2) rfl (fun H1 locs1 hH1 hS1 => ?_)
  refine lv_aload_n F.1.1 F.1.2.1 dL_law_1069 rfl (lv_at hl 2 rfl) ?_
  refine lw_arg 1 rfl F hl rfl rfl (by omega) hS1 1076 rfl dL_law_1070 dL_law_1071 dL_law_1073 dL_law_1074 dL_law_1075 ?_
  refine lw_arg 2 rfl F hl rfl rfl (by omega) hS1 1082 rfl dL_law_1076 dL_law_1077 dL_law_1079 dL_law_1080 dL_law_1081 ?_
  refine lw_call0 F (c_X9_list (E := E) (l := l) (S := S) v.2 355 hMd (xs (i + 1)) (xs (i + 2))) ew ok_X9_list ⟨Nat.le_of_ble_eq_true rfl, Nat.le_of_ble_eq_true rfl⟩ hkn ⟨rfl, rfl⟩ (hMd 0 (Nat.le_of_ble_eq_true rfl)) (Nat.le_of_ble_eq_true rfl) rfl rfl rfl (Nat.le_of_ble_eq_true rfl) gL_law_X9_list hH1 hS1 hl 1085 rfl dL_law_1082 [.int w.1, .int v.1] rfl (S, w.2) rfl (fun H2 locs2 hH2 hS2 => ?_)
  exact lv_icmp_eq (tgt := 1405) F.1.1 F.1.2.1 dL_law_1085 (by decide) (fun _ => K _ _ _ ⟨hBT, hrf, hMd, hou, hRc, hz2⟩ hH2 hS2) (fun hc => absurd hvw hc)
theorem lc_total (F : lw_C E p s m c b L xs) (hI : z_I S d rf) (hi : i + 6 ≤ L) (hkn : k ≤ room_1.cells ∧ n ≤ room_1.slots) (hH : z_H E (S, d) H) (hS : va_S (z_A E) s.heap H locs) (hl : lv_has ls 7 (lw_lv E b i)) (K : ∀ (d2 : z_D) (H1 : Heap) (locs1 : List Loc), z_I S d2 rf → z_H E (S, d2) H1 → va_S (z_A E) s.heap H1 locs1 → W p l e room_1 s m #[Value.ref b] below meth c H1 locs1 k n Q (F0 m 1405 ls [])) : W p l e room_1 s m #[Value.ref b] below meth c H locs k n Q (F0 m 1090 ls []) := by
  obtain ⟨hBT, hrf, hMd, hou, hRc, hz⟩ := id hI
  obtain ⟨v, ev, w, ew, hvw, hz2⟩ := z_total hz (Nat.le_refl _) (xs (i + 1)) (lw_b (xs (i + 2)))
  refine lv_aload_n F.1.1 F.1.2.1 dL_law_1090 rfl (lv_at hl 1 rfl) ?_
  refine lw_arg 1 rfl F hl rfl rfl (by omega) hS 1097 rfl dL_law_1091 dL_law_1092 dL_law_1094 dL_law_1095 dL_law_1096 ?_
  refine lw_arg 2 rfl F hl rfl rfl (by omega) hS 1103 rfl dL_law_1097 dL_law_1098 dL_law_1100 dL_law_1101 dL_law_1102 ?_
  refine lw_bool F 1111 rfl dL_law_1103 dL_law_1106 dL_law_1107 dL_law_1110 ?_
  refine lw_call0 F (c_X8_total (E := E) (l := l) (S := S) d 0 hBT (xs (i + 1)) (lw_b (xs (i + 2)))) ev ok_X8_total ⟨Nat.le_of_ble_eq_true rfl, Nat.le_of_ble_eq_true rfl⟩ hkn ⟨rfl, rfl⟩ (hBT.1 0 (Nat.le_of_ble_eq_true rfl)) (Nat.le_of_ble_eq_true rfl) rfl rfl rfl (Nat.le_of_ble_eq_true rfl) gL_law_X8_total hH hS hl 1114 rfl dL_law_1111 [.int v] rfl (S, d) rfl (fun H1 locs1 hH1 hS1 => ?_)
  refine lv_aload_n F.1.1 F.1.2.1 dL_law_1114 rfl (lv_at hl 2 rfl) ?_
  refine lw_arg 1 rfl F hl rfl rfl (by omega) hS1 1121 rfl dL_law_1115 dL_law_1116 dL_law_1118 dL_law_1119 dL_law_1120 ?_
  refine lw_arg 2 rfl F hl rfl rfl (by omega) hS1 1127 rfl dL_law_1121 dL_law_1122 dL_law_1124 dL_law_1125 dL_law_1126 ?_
  refine lw_bool F 1135 rfl dL_law_1127 dL_law_1130 dL_law_1131 dL_law_1134 ?_
  refine lw_call0 F (c_X9_total (E := E) (l := l) (S := S) d 355 hMd (xs (i + 1)) (lw_b (xs (i + 2)))) ew ok_X9_total ⟨Nat.le_of_ble_eq_true rfl, Nat.le_of_ble_eq_true rfl⟩ hkn ⟨rfl, rfl⟩ (hMd 0 (Nat.le_of_ble_eq_true rfl)) (Nat.le_of_ble_eq_true rfl) rfl rfl rfl (Nat.le_of_ble_eq_true rfl) gL_law_X9_total hH1 hS1 hl 1138 rfl dL_law_1135 [.int w.1, .int v] rfl (S, w.2) rfl (fun H2 locs2 hH2 hS2 => ?_)
  exact lv_icmp_eq (tgt := 1405) F.1.1 F.1.2.1 dL_law_1138 (by decide) (fun _ => K _ _ _ ⟨hBT, hrf, hMd, hou, hRc, hz2⟩ hH2 hS2) (fun hc => absurd hvw hc)
theorem lc_jersey (F : lw_C E p s m c b L xs) (hI : z_I S d rf) (hi : i + 6 ≤ L) (hkn : k ≤ room_1.cells ∧ n ≤ room_1.slots) (hH : z_H E (S, d) H) (hS : va_S (z_A E) s.heap H locs) (hl : lv_has ls 7 (lw_lv E b i)) (K : ∀ (d2 : z_D) (H1 : Heap) (locs1 : List Loc), z_I S d2 rf → z_H E (S, d2) H1 → va_S (z_A E) s.heap H1 locs1 → W p l e room_1 s m #[Value.ref b] below meth c H1 locs1 k n Q (F0 m 1405 ls [])) : W p l e room_1 s m #[Value.ref b] below meth c H locs k n Q (F0 m 1143 ls []) := by
  obtain ⟨hBT, hrf, hMd, hou, hRc, hz⟩ := id hI
  obtain ⟨v, ev, w, ew, hvw, hz2⟩ := z_jersey hz (Nat.le_refl _) (xs (i + 1)) (lw_b (xs (i + 2)))
  refine lv_aload_n F.1.1 F.1.2.1 dL_law_1143 rfl (lv_at hl 1 rfl) ?_
  refine lw_arg 1 rfl F hl rfl rfl (by omega) hS 1150 rfl dL_law_1144 dL_law_1145 dL_law_1147 dL_law_1148 dL_law_1149 ?_
  refine lw_arg 2 rfl F hl rfl rfl (by omega) hS 1156 rfl dL_law_1150 dL_law_1151 dL_law_1153 dL_law_1154 dL_law_1155 ?_
  refine lw_bool F 1164 rfl dL_law_1156 dL_law_1159 dL_law_1160 dL_law_1163 ?_
  refine lw_call0 F (c_X8_jersey (E := E) (l := l) (S := S) d 0 hBT (xs (i + 1)) (lw_b (xs (i + 2)))) ev ok_X8_jersey ⟨Nat.le_of_ble_eq_true rfl, Nat.le_of_ble_eq_true rfl⟩ hkn ⟨rfl, rfl⟩ (hBT.1 0 (Nat.le_of_ble_eq_true rfl)) (Nat.le_of_ble_eq_true rfl) rfl rfl rfl (Nat.le_of_ble_eq_true rfl) gL_law_X8_jersey hH hS hl 1167 rfl dL_law_1164 [.int v.1] rfl (S, v.2) rfl (fun H1 locs1 hH1 hS1 => ?_)
  refine lv_aload_n F.1.1 F.1.2.1 dL_law_1167 rfl (lv_at hl 2 rfl) ?_
  refine lw_arg 1 rfl F hl rfl rfl (by omega) hS1 1174 rfl dL_law_1168 dL_law_1169 dL_law_1171 dL_law_1172 dL_law_1173 ?_
  refine lw_arg 2 rfl F hl rfl rfl (by omega) hS1 1180 rfl dL_law_1174 dL_law_1175 dL_law_1177 dL_law_1178 dL_law_1179 ?_
  refine lw_bool F 1188 rfl dL_law_1180 dL_law_1183 dL_law_1184 dL_law_1187 ?_
  refine lw_call0 F (c_X9_jersey (E := E) (l := l) (S := S) v.2 355 hMd (xs (i + 1)) (lw_b (xs (i + 2)))) ew ok_X9_jersey ⟨Nat.le_of_ble_eq_true rfl, Nat.le_of_ble_eq_true rfl⟩ hkn ⟨rfl, rfl⟩ (hMd 0 (Nat.le_of_ble_eq_true rfl)) (Nat.le_of_ble_eq_true rfl) rfl rfl rfl (Nat.le_of_ble_eq_true rfl) gL_law_X9_jersey hH1 hS1 hl 1191 rfl dL_law_1188 [.int w.1, .int v.1] rfl (S, w.2) rfl (fun H2 locs2 hH2 hS2 => ?_)
  exact lv_icmp_eq (tgt := 1405) F.1.1 F.1.2.1 dL_law_1191 (by decide) (fun _ => K _ _ _ ⟨hBT, hrf, hMd, hou, hRc, hz2⟩ hH2 hS2) (fun hc => absurd hvw hc)
theorem lc_needs (F : lw_C E p s m c b L xs) (hI : z_I S d rf) (hi : i + 6 ≤ L) (hkn : k ≤ room_1.cells ∧ n ≤ room_1.slots) (hH : z_H E (S, d) H) (hS : va_S (z_A E) s.heap H locs) (hl : lv_has ls 7 (lw_lv E b i)) (K : ∀ (d2 : z_D) (H1 : Heap) (locs1 : List Loc), z_I S d2 rf → z_H E (S, d2) H1 → va_S (z_A E) s.heap H1 locs1 → W p l e room_1 s m #[Value.ref b] below meth c H1 locs1 k n Q (F0 m 1405 ls [])) : W p l e room_1 s m #[Value.ref b] below meth c H locs k n Q (F0 m 1196 ls []) := by
  obtain ⟨hBT, hrf, hMd, hou, hRc, hz⟩ := id hI
  obtain ⟨v, ev, w, ew, hvw, hz2⟩ := z_needs hz (Nat.le_refl _) (xs (i + 1))
  refine lv_aload_n F.1.1 F.1.2.1 dL_law_1196 rfl (lv_at hl 1 rfl) ?_
  refine lw_arg 1 rfl F hl rfl rfl (by omega) hS 1203 rfl dL_law_1197 dL_law_1198 dL_law_1200 dL_law_1201 dL_law_1202 ?_
  refine lw_call0 F (c_X8_needs (E := E) (l := l) (S := S) d 0 hBT (xs (i + 1))) ev ok_X8_needs ⟨Nat.le_of_ble_eq_true rfl, Nat.le_of_ble_eq_true rfl⟩ hkn ⟨rfl, rfl⟩ (hBT.1 0 (Nat.le_of_ble_eq_true rfl)) (Nat.le_of_ble_eq_true rfl) rfl rfl rfl (Nat.le_of_ble_eq_true rfl) gL_law_X8_needs hH hS hl 1206 rfl dL_law_1203 [.int v.1] rfl (S, v.2) rfl (fun H1 locs1 hH1 hS1 => ?_)
  refine lv_aload_n F.1.1 F.1.2.1 dL_law_1206 rfl (lv_at hl 2 rfl) ?_
  refine lw_arg 1 rfl F hl rfl rfl (by omega) hS1 1213 rfl dL_law_1207 dL_law_1208 dL_law_1210 dL_law_1211 dL_law_1212 ?_
  refine lw_call0 F (c_X9_needs (E := E) (l := l) (S := S) v.2 355 hMd (xs (i + 1))) ew ok_X9_needs ⟨Nat.le_of_ble_eq_true rfl, Nat.le_of_ble_eq_true rfl⟩ hkn ⟨rfl, rfl⟩ (hMd 0 (Nat.le_of_ble_eq_true rfl)) (Nat.le_of_ble_eq_true rfl) rfl rfl rfl (Nat.le_of_ble_eq_true rfl) gL_law_X9_needs hH1 hS1 hl 1216 rfl dL_law_1213 [.int w.1, .int v.1] rfl (S, w.2) rfl (fun H2 locs2 hH2 hS2 => ?_)
  exact lv_icmp_eq (tgt := 1405) F.1.1 F.1.2.1 dL_law_1216 (by decide) (fun _ => K _ _ _ ⟨hBT, hrf, hMd, hou, hRc, hz2⟩ hH2 hS2) (fun hc => absurd hvw hc)
theorem lc_without (F : lw_C E p s m c b L xs) (hI : z_I S d rf) (hi : i + 6 ≤ L) (hkn : k ≤ room_1.cells ∧ n ≤ room_1.slots) (hH : z_H E (S, d) H) (hS : va_S (z_A E) s.heap H locs) (hl : lv_has ls 7 (lw_lv E b i)) (K : ∀ (d2 : z_D) (H1 : Heap) (locs1 : List Loc), z_I S d2 rf → z_H E (S, d2) H1 → va_S (z_A E) s.heap H1 locs1 → W p l e room_1 s m #[Value.ref b] below meth c H1 locs1 k n Q (F0 m 1405 ls [])) : W p l e room_1 s m #[Value.ref b] below meth c H locs k n Q (F0 m 1221 ls []) := by
  obtain ⟨hBT, hrf, hMd, hou, hRc, hz⟩ := id hI
  obtain ⟨v, ev, w, ew, hvw, hz2⟩ := z_without hz (Nat.le_refl _) (xs (i + 1))
  refine lv_aload_n F.1.1 F.1.2.1 dL_law_1221 rfl (lv_at hl 1 rfl) ?_
  refine lw_arg 1 rfl F hl rfl rfl (by omega) hS 1228 rfl dL_law_1222 dL_law_1223 dL_law_1225 dL_law_1226 dL_law_1227 ?_
  refine lw_call0 F (c_X8_without (E := E) (l := l) (S := S) d 0 hBT (xs (i + 1))) ev ok_X8_without ⟨Nat.le_of_ble_eq_true rfl, Nat.le_of_ble_eq_true rfl⟩ hkn ⟨rfl, rfl⟩ (hBT.1 0 (Nat.le_of_ble_eq_true rfl)) (Nat.le_of_ble_eq_true rfl) rfl rfl rfl (Nat.le_of_ble_eq_true rfl) gL_law_X8_without hH hS hl 1231 rfl dL_law_1228 [.int v.1] rfl (S, v.2) rfl (fun H1 locs1 hH1 hS1 => ?_)
  refine lv_aload_n F.1.1 F.1.2.1 dL_law_1231 rfl (lv_at hl 2 rfl) ?_
  refine lw_arg 1 rfl F hl rfl rfl (by omega) hS1 1238 rfl dL_law_1232 dL_law_1233 dL_law_1235 dL_law_1236 dL_law_1237 ?_
  refine lw_call0 F (c_X9_without (E := E) (l := l) (S := S) v.2 355 hMd (xs (i + 1))) ew ok_X9_without ⟨Nat.le_of_ble_eq_true rfl, Nat.le_of_ble_eq_true rfl⟩ hkn ⟨rfl, rfl⟩ (hMd 0 (Nat.le_of_ble_eq_true rfl)) (Nat.le_of_ble_eq_true rfl) rfl rfl rfl (Nat.le_of_ble_eq_true rfl) gL_law_X9_without hH1 hS1 hl 1241 rfl dL_law_1238 [.int w.1, .int v.1] rfl (S, w.2) rfl (fun H2 locs2 hH2 hS2 => ?_)
  exact lv_icmp_eq (tgt := 1405) F.1.1 F.1.2.1 dL_law_1241 (by decide) (fun _ => K _ _ _ ⟨hBT, hrf, hMd, hou, hRc, hz2⟩ hH2 hS2) (fun hc => absurd hvw hc)
theorem lc_caught (F : lw_C E p s m c b L xs) (hI : z_I S d rf) (hi : i + 6 ≤ L) (hkn : k ≤ room_1.cells ∧ n ≤ room_1.slots) (hH : z_H E (S, d) H) (hS : va_S (z_A E) s.heap H locs) (hl : lv_has ls 7 (lw_lv E b i)) (K : ∀ (d2 : z_D) (H1 : Heap) (locs1 : List Loc), z_I S d2 rf → z_H E (S, d2) H1 → va_S (z_A E) s.heap H1 locs1 → W p l e room_1 s m #[Value.ref b] below meth c H1 locs1 k n Q (F0 m 1405 ls [])) : W p l e room_1 s m #[Value.ref b] below meth c H locs k n Q (F0 m 1246 ls []) := by
  obtain ⟨hBT, hrf, hMd, hou, hRc, hz⟩ := id hI
  obtain ⟨v, ev, w, ew, hvw, hz2⟩ := z_caught hz (Nat.le_refl _) (xs (i + 1)) (xs (i + 2)) (xs (i + 3)) (xs (i + 4))
  refine lv_aload_n F.1.1 F.1.2.1 dL_law_1246 rfl (lv_at hl 1 rfl) ?_
  refine lw_arg 1 rfl F hl rfl rfl (by omega) hS 1253 rfl dL_law_1247 dL_law_1248 dL_law_1250 dL_law_1251 dL_law_1252 ?_
  refine lw_arg 2 rfl F hl rfl rfl (by omega) hS 1259 rfl dL_law_1253 dL_law_1254 dL_law_1256 dL_law_1257 dL_law_1258 ?_
  refine lw_arg 3 rfl F hl rfl rfl (by omega) hS 1265 rfl dL_law_1259 dL_law_1260 dL_law_1262 dL_law_1263 dL_law_1264 ?_
  refine lw_arg 4 rfl F hl rfl rfl (by omega) hS 1271 rfl dL_law_1265 dL_law_1266 dL_law_1268 dL_law_1269 dL_law_1270 ?_
  refine lw_call0 F (c_X8_caught (E := E) (l := l) (S := S) d 0 hBT (xs (i + 1)) (xs (i + 2)) (xs (i + 3)) (xs (i + 4))) ev ok_X8_caught ⟨Nat.le_of_ble_eq_true rfl, Nat.le_of_ble_eq_true rfl⟩ hkn ⟨rfl, rfl⟩ (hBT.1 0 (Nat.le_of_ble_eq_true rfl)) (Nat.le_of_ble_eq_true rfl) rfl rfl rfl (Nat.le_of_ble_eq_true rfl) gL_law_X8_caught hH hS hl 1274 rfl dL_law_1271 [.int v] rfl (S, d) rfl (fun H1 locs1 hH1 hS1 => ?_)
  refine lv_aload_n F.1.1 F.1.2.1 dL_law_1274 rfl (lv_at hl 2 rfl) ?_
  refine lw_arg 1 rfl F hl rfl rfl (by omega) hS1 1281 rfl dL_law_1275 dL_law_1276 dL_law_1278 dL_law_1279 dL_law_1280 ?_
  refine lw_arg 2 rfl F hl rfl rfl (by omega) hS1 1287 rfl dL_law_1281 dL_law_1282 dL_law_1284 dL_law_1285 dL_law_1286 ?_
  refine lw_arg 3 rfl F hl rfl rfl (by omega) hS1 1293 rfl dL_law_1287 dL_law_1288 dL_law_1290 dL_law_1291 dL_law_1292 ?_
  refine lw_arg 4 rfl F hl rfl rfl (by omega) hS1 1299 rfl dL_law_1293 dL_law_1294 dL_law_1296 dL_law_1297 dL_law_1298 ?_
  refine lw_call0 F (c_X9_caught (E := E) (l := l) (S := S) d 355 hMd (xs (i + 1)) (xs (i + 2)) (xs (i + 3)) (xs (i + 4))) ew ok_X9_caught ⟨Nat.le_of_ble_eq_true rfl, Nat.le_of_ble_eq_true rfl⟩ hkn ⟨rfl, rfl⟩ (hMd 0 (Nat.le_of_ble_eq_true rfl)) (Nat.le_of_ble_eq_true rfl) rfl rfl rfl (Nat.le_of_ble_eq_true rfl) gL_law_X9_caught hH1 hS1 hl 1302 rfl dL_law_1299 [.int w.1, .int v] rfl (S, w.2) rfl (fun H2 locs2 hH2 hS2 => ?_)
  exact lv_icmp_eq (tgt := 1405) F.1.1 F.1.2.1 dL_law_1302 (by decide) (fun _ => K _ _ _ ⟨hBT, hrf, hMd, hou, hRc, hz2⟩ hH2 hS2) (fun hc => absurd hvw hc)
theorem lc_holds (F : lw_C E p s m c b L xs) (hI : z_I S d rf) (hi : i + 6 ≤ L) (hkn : k ≤ room_1.cells ∧ n ≤ room_1.slots) (hH : z_H E (S, d) H) (hS : va_S (z_A E) s.heap H locs) (hl : lv_has ls 7 (lw_lv E b i)) (K : ∀ (d2 : z_D) (H1 : Heap) (locs1 : List Loc), z_I S d2 rf → z_H E (S, d2) H1 → va_S (z_A E) s.heap H1 locs1 → W p l e room_1 s m #[Value.ref b] below meth c H1 locs1 k n Q (F0 m 1405 ls [])) : W p l e room_1 s m #[Value.ref b] below meth c H locs k n Q (F0 m 1307 ls []) := by
  obtain ⟨hBT, hrf, hMd, hou, hRc, hz⟩ := id hI
  obtain ⟨v, ev, w, ew, hvw, hz2⟩ := z_holds hz (Nat.le_refl _) (xs (i + 1)) (xs (i + 2)) (xs (i + 3))
  refine lv_aload_n F.1.1 F.1.2.1 dL_law_1307 rfl (lv_at hl 1 rfl) ?_
  refine lw_arg 1 rfl F hl rfl rfl (by omega) hS 1314 rfl dL_law_1308 dL_law_1309 dL_law_1311 dL_law_1312 dL_law_1313 ?_
  refine lw_arg 2 rfl F hl rfl rfl (by omega) hS 1320 rfl dL_law_1314 dL_law_1315 dL_law_1317 dL_law_1318 dL_law_1319 ?_
  refine lw_arg 3 rfl F hl rfl rfl (by omega) hS 1326 rfl dL_law_1320 dL_law_1321 dL_law_1323 dL_law_1324 dL_law_1325 ?_
  refine lw_call0 F (c_X8_holds (E := E) (l := l) (S := S) d 0 hBT (xs (i + 1)) (xs (i + 2)) (xs (i + 3))) ev ok_X8_holds ⟨Nat.le_of_ble_eq_true rfl, Nat.le_of_ble_eq_true rfl⟩ hkn ⟨rfl, rfl⟩ (hBT.1 0 (Nat.le_of_ble_eq_true rfl)) (Nat.le_of_ble_eq_true rfl) rfl rfl rfl (Nat.le_of_ble_eq_true rfl) gL_law_X8_holds hH hS hl 1329 rfl dL_law_1326 [.int v] rfl (S, d) rfl (fun H1 locs1 hH1 hS1 => ?_)
  refine lv_aload_n F.1.1 F.1.2.1 dL_law_1329 rfl (lv_at hl 2 rfl) ?_
  refine lw_arg 1 rfl F hl rfl rfl (by omega) hS1 1336 rfl dL_law_1330 dL_law_1331 dL_law_1333 dL_law_1334 dL_law_1335 ?_
  refine lw_arg 2 rfl F hl rfl rfl (by omega) hS1 1342 rfl dL_law_1336 dL_law_1337 dL_law_1339 dL_law_1340 dL_law_1341 ?_
  refine lw_arg 3 rfl F hl rfl rfl (by omega) hS1 1348 rfl dL_law_1342 dL_law_1343 dL_law_1345 dL_law_1346 dL_law_1347 ?_
  refine lw_call0 F (c_X9_holds (E := E) (l := l) (S := S) d 355 hMd (xs (i + 1)) (xs (i + 2)) (xs (i + 3))) ew ok_X9_holds ⟨Nat.le_of_ble_eq_true rfl, Nat.le_of_ble_eq_true rfl⟩ hkn ⟨rfl, rfl⟩ (hMd 0 (Nat.le_of_ble_eq_true rfl)) (Nat.le_of_ble_eq_true rfl) rfl rfl rfl (Nat.le_of_ble_eq_true rfl) gL_law_X9_holds hH1 hS1 hl 1351 rfl dL_law_1348 [.int w.1, .int v] rfl (S, w.2) rfl (fun H2 locs2 hH2 hS2 => ?_)
  exact lv_icmp_eq (tgt := 1405) F.1.1 F.1.2.1 dL_law_1351 (by decide) (fun _ => K _ _ _ ⟨hBT, hrf, hMd, hou, hRc, hz2⟩ hH2 hS2) (fun hc => absurd hvw hc)
theorem lc_chase (F : lw_C E p s m c b L xs) (hI : z_I S d rf) (hi : i + 6 ≤ L) (hkn : k ≤ room_1.cells ∧ n ≤ room_1.slots) (hH : z_H E (S, d) H) (hS : va_S (z_A E) s.heap H locs) (hl : lv_has ls 7 (lw_lv E b i)) (K : ∀ (d2 : z_D) (H1 : Heap) (locs1 : List Loc), z_I S d2 rf → z_H E (S, d2) H1 → va_S (z_A E) s.heap H1 locs1 → W p l e room_1 s m #[Value.ref b] below meth c H1 locs1 k n Q (F0 m 1405 ls [])) : W p l e room_1 s m #[Value.ref b] below meth c H locs k n Q (F0 m 1356 ls []) := by
  obtain ⟨hBT, hrf, hMd, hou, hRc, hz⟩ := id hI
  obtain ⟨v, ev, w, ew, hvw, hz2⟩ := z_chase hz (Nat.le_refl _) (xs (i + 1)) (xs (i + 2)) (xs (i + 3))
  refine lv_aload_n F.1.1 F.1.2.1 dL_law_1356 rfl (lv_at hl 1 rfl) ?_
  refine lw_arg 1 rfl F hl rfl rfl (by omega) hS 1363 rfl dL_law_1357 dL_law_1358 dL_law_1360 dL_law_1361 dL_law_1362 ?_
  refine lw_arg 2 rfl F hl rfl rfl (by omega) hS 1369 rfl dL_law_1363 dL_law_1364 dL_law_1366 dL_law_1367 dL_law_1368 ?_
  refine lw_arg 3 rfl F hl rfl rfl (by omega) hS 1375 rfl dL_law_1369 dL_law_1370 dL_law_1372 dL_law_1373 dL_law_1374 ?_
  refine lw_call0 F (c_X8_chase (E := E) (l := l) (S := S) d 0 hBT (xs (i + 1)) (xs (i + 2)) (xs (i + 3))) ev ok_X8_chase ⟨Nat.le_of_ble_eq_true rfl, Nat.le_of_ble_eq_true rfl⟩ hkn ⟨rfl, rfl⟩ (hBT.1 0 (Nat.le_of_ble_eq_true rfl)) (Nat.le_of_ble_eq_true rfl) rfl rfl rfl (Nat.le_of_ble_eq_true rfl) gL_law_X8_chase hH hS hl 1378 rfl dL_law_1375 [.int v] rfl (S, d) rfl (fun H1 locs1 hH1 hS1 => ?_)
  refine lv_aload_n F.1.1 F.1.2.1 dL_law_1378 rfl (lv_at hl 2 rfl) ?_
  refine lw_arg 1 rfl F hl rfl rfl (by omega) hS1 1385 rfl dL_law_1379 dL_law_1380 dL_law_1382 dL_law_1383 dL_law_1384 ?_
  refine lw_arg 2 rfl F hl rfl rfl (by omega) hS1 1391 rfl dL_law_1385 dL_law_1386 dL_law_1388 dL_law_1389 dL_law_1390 ?_
  refine lw_arg 3 rfl F hl rfl rfl (by omega) hS1 1397 rfl dL_law_1391 dL_law_1392 dL_law_1394 dL_law_1395 dL_law_1396 ?_
  refine lw_call0 F (c_X9_chase (E := E) (l := l) (S := S) d 355 hMd (xs (i + 1)) (xs (i + 2)) (xs (i + 3))) ew ok_X9_chase ⟨Nat.le_of_ble_eq_true rfl, Nat.le_of_ble_eq_true rfl⟩ hkn ⟨rfl, rfl⟩ (hMd 0 (Nat.le_of_ble_eq_true rfl)) (Nat.le_of_ble_eq_true rfl) rfl rfl rfl (Nat.le_of_ble_eq_true rfl) gL_law_X9_chase hH1 hS1 hl 1400 rfl dL_law_1397 [.int w.1, .int v] rfl (S, w.2) rfl (fun H2 locs2 hH2 hS2 => ?_)
  exact lv_icmp_eq (tgt := 1405) F.1.1 F.1.2.1 dL_law_1400 (by decide) (fun _ => K _ _ _ ⟨hBT, hrf, hMd, hou, hRc, hz2⟩ hH2 hS2) (fun hc => absurd hvw hc)
end
