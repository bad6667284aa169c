/-! MADE by g7.py: the law's cases and its loop -/
def SC (E : Ep) (X : Fx) (b L : Nat) (xs : Nat → Int32) : Prop := match X with
  | (_, _, _, s, _, _, _, _, _, _, _, _) => va_X b L xs s s.heap ∧ b < s.heap.size ∧ ¬ AD E b
def LVX (E : Ep) (b i : Nat) : List (Nat × Value) := [(3, .int (nI i)), (2, .ref (ad E 120)), (1, .ref (ad E 0)), (0, .ref b)]
section LW
variable {l : Launch} {E : Ep} {X : Fx} {own : String} {cc : ByteArray} {nL d : Nat} {h h1 : Hp} {pc : Nat} {lv lv' : List (Nat × Value)} {st : List Value} {b L i k : Nat} {xs : Nat → Int32} {X0 Y0 : St}
theorem g_sld (C : CX E X own cc nL d) (hX : SC E X b L xs) {n : Nat} {x : Int32} (hx0 : x = nI n) (hi : n < L) (hL : L ≤ 2048) (hdg : decode cc pc = .ok (.iaload, 1)) (k : GG l E X h (pc + 1) lv (.int (xs n) :: st)) : GG l E X h pc lv (.int x :: .ref b :: st) := by
  obtain ⟨p, e, R, s, m, args, below, meth, c, ⟨cells, slots⟩, Q, nL'⟩ := X
  obtain ⟨rfl, hx, hbc, hml, hown, hts, hSt, hc1, hc2, hf, hlo⟩ := C
  obtain ⟨g1, g2, g3⟩ := hX
  subst hx0
  exact fun H locs ls hP hS hl => va_sld hx hbc g1 g2 g3 hS (vp_in_nI hi (by omega)) hdg (by rw [nI_clamp (by omega)]; exact k H locs ls hP hS hl)
theorem g_slen (C : CX E X own cc nL d) (hX : SC E X b L xs) (hdg : decode cc pc = .ok (.arraylength, 1)) (k : GG l E X h (pc + 1) lv (.int (nI L) :: st)) : GG l E X h pc lv (.ref b :: st) := by
  obtain ⟨p, e, R, s, m, args, below, meth, c, ⟨cells, slots⟩, Q, nL'⟩ := X
  obtain ⟨rfl, hx, hbc, hml, hown, hts, hSt, hc1, hc2, hf, hlo⟩ := C
  obtain ⟨g1, g2, g3⟩ := hX
  exact fun H locs ls hP hS hl => va_slen hx hbc g1 g2 g3 hS hdg (k H locs ls hP hS hl)
theorem g_gt (C : CX E X own cc nL d) {x y : Int32} {off : Int} {tgt : Nat} (hdg : decode cc pc = .ok (.if_icmp .gt off, 3)) (ht : (pc : Int) + off = (tgt : Int)) (kt : y < x → GG l E X h tgt lv st) (kf : ¬ y < x → GG l E X h (pc + 3) lv st) : GG l E X h pc lv (.int y :: .int x :: st) := by
  obtain ⟨p, e, R, s, m, args, below, meth, c, ⟨cells, slots⟩, Q, nL'⟩ := X
  obtain ⟨rfl, hx, hbc, hml, hown, hts, hSt, hc1, hc2, hf, hlo⟩ := C
  exact fun H locs ls hP hS hl => lv_icmp_gt hx hbc hdg ht (fun q => kt q H locs ls hP hS hl) (fun q => kf q H locs ls hP hS hl)
theorem g_eqY (C : CX E X own cc nL d) {x : Int32} {off : Int} {tgt : Nat} (hdg : decode cc pc = .ok (.if_icmp .eq off, 3)) (ht : (pc : Int) + off = (tgt : Int)) (k : GG l E X h tgt lv st) : GG l E X h pc lv (.int x :: .int x :: st) := by
  obtain ⟨p, e, R, s, m, args, below, meth, c, ⟨cells, slots⟩, Q, nL'⟩ := X
  obtain ⟨rfl, hx, hbc, hml, hown, hts, hSt, hc1, hc2, hf, hlo⟩ := C
  exact fun H locs ls hP hS hl => lv_icmp_eq hx hbc hdg ht (fun _ => k H locs ls hP hS hl) (fun q => absurd rfl q)
theorem g_arg (C : CX E X own cc nL d) (hX : SC E X b L xs) (n : Nat) {z : Int} (hz : Int32.ofInt z = nI n) (hi : i + n < L) (hL : L ≤ 2048) (d0 : decode cc pc = .ok (.aload_n 0, 1)) (d1 : decode cc (pc + 1) = .ok (.iload_n 3, 1)) (d2 : decode cc (pc + 1 + 1) = .ok (.iconst z, 1)) (d3 : decode cc (pc + 1 + 1 + 1) = .ok (.iadd, 1)) (d4 : decode cc (pc + 1 + 1 + 1 + 1) = .ok (.iaload, 1)) (k : GG l E X h (pc + 1 + 1 + 1 + 1 + 1) (LVX E b i) (.int (xs (i + n)) :: st)) : GG l E X h pc (LVX E b i) st := by
  refine g_aload_n C 3 d0 rfl rfl ?_
  refine g_iload_n C 0 d1 rfl rfl ?_
  refine g_iconst C d2 hz ?_
  refine g_iadd C d3 ?_
  exact g_sld C hX (nI_add i n) hi hL d4 k
theorem ok_0 : OKr 0 4 := ⟨by decide, rfl⟩
theorem ok_120 : OKr 120 5 := ⟨by decide, rfl⟩
theorem law_c0 (C : CX E X RL cL_law 4 20) (hX : SC E X b L xs) (hL : L ≤ 2048) (hi : i + 3 < L) (hG : Gi k h X0 Y0) (hk : k ≤ 900) (kk : ∀ h9, Fin k h9 → GG l E X h9 1049 (LVX E b i) []) : GG l E X h 180 (LVX E b i) [] := by
  obtain ⟨r, h1, h2, e1, e2, hf⟩ := a_feed (xs (i + 1)) h X0 Y0 hG hk
  refine g_aload_n C 2 dL_law_180 rfl rfl ?_
  refine g_arg C hX 1 rfl (by omega) hL dL_law_181 dL_law_182 dL_law_183 dL_law_184 dL_law_185 ?_
  refine g_cV (As := [.int (xs (i + 1))]) (rest := []) C (w_X4_feed l E h 0 _ (r, h1) ok_0 e1) mw_X4_feed (show Cond.methodLink RL 13 yX4_feed ∈ TB from tb_mem 273 (by decide +kernel) rfl) ok_0 rfl (ce4 E h rfl) rfl (by decide) rfl (Nat.le_of_ble_eq_true rfl) dL_law_186 rfl ?_
  refine g_aload_n C 1 dL_law_189 rfl rfl ?_
  refine g_arg C hX 1 rfl (by omega) hL dL_law_190 dL_law_191 dL_law_192 dL_law_193 dL_law_194 ?_
  refine g_cV (As := [.int (xs (i + 1))]) (rest := [.int _]) C (w_X5_feed l E _ 120 _ (_, h2) ok_120 e2) mw_X5_feed (show Cond.methodLink RL 17 yX5_feed ∈ TB from tb_mem 844 (by decide +kernel) rfl) ok_120 rfl (ce5 E _ rfl) rfl (by decide) rfl (Nat.le_of_ble_eq_true rfl) dL_law_195 rfl ?_
  refine g_eqY (tgt := 1049) C dL_law_198 (by decide) ?_
  exact kk h2 hf
theorem law_c1 (C : CX E X RL cL_law 4 20) (hX : SC E X b L xs) (hL : L ≤ 2048) (hi : i + 3 < L) (hG : Gi k h X0 Y0) (hk : k ≤ 900) (kk : ∀ h9, Fin k h9 → GG l E X h9 1049 (LVX E b i) []) : GG l E X h 203 (LVX E b i) [] := by
  obtain ⟨r, h1, h2, e1, e2, hf⟩ := a_land h X0 Y0 hG hk
  refine g_aload_n C 2 dL_law_203 rfl rfl ?_
  refine g_cV (As := []) (rest := []) C (w_X4_land l E h 0  (r, h1) ok_0 e1) mw_X4_land (show Cond.methodLink RL 18 yX4_land ∈ TB from tb_mem 289 (by decide +kernel) rfl) ok_0 rfl (ce4 E h rfl) rfl (by decide) rfl (Nat.le_of_ble_eq_true rfl) dL_law_204 rfl ?_
  refine g_aload_n C 1 dL_law_207 rfl rfl ?_
  refine g_cV (As := []) (rest := [.int _]) C (w_X5_land l E _ 120  (_, h2) ok_120 e2) mw_X5_land (show Cond.methodLink RL 22 yX5_land ∈ TB from tb_mem 852 (by decide +kernel) rfl) ok_120 rfl (ce5 E _ rfl) rfl (by decide) rfl (Nat.le_of_ble_eq_true rfl) dL_law_208 rfl ?_
  refine g_eqY (tgt := 1049) C dL_law_211 (by decide) ?_
  exact kk h2 hf
theorem law_c2 (C : CX E X RL cL_law 4 20) (hX : SC E X b L xs) (hL : L ≤ 2048) (hi : i + 3 < L) (hG : Gi k h X0 Y0) (hk : k ≤ 900) (kk : ∀ h9, Fin k h9 → GG l E X h9 1049 (LVX E b i) []) : GG l E X h 216 (LVX E b i) [] := by
  obtain ⟨r, h1, h2, e1, e2, hf⟩ := a_person (xs (i + 1)) (xs (i + 2)) h X0 Y0 hG hk
  refine g_aload_n C 2 dL_law_216 rfl rfl ?_
  refine g_arg C hX 1 rfl (by omega) hL dL_law_217 dL_law_218 dL_law_219 dL_law_220 dL_law_221 ?_
  refine g_arg C hX 2 rfl (by omega) hL dL_law_222 dL_law_223 dL_law_224 dL_law_225 dL_law_226 ?_
  refine g_cV (As := [.int (xs (i + 1)), .int (xs (i + 2))]) (rest := []) C (w_X4_person l E h 0 _ _ (r, h1) ok_0 e1) mw_X4_person (show Cond.methodLink RL 23 yX4_person ∈ TB from tb_mem 386 (by decide +kernel) rfl) ok_0 rfl (ce4 E h rfl) rfl (by decide) rfl (Nat.le_of_ble_eq_true rfl) dL_law_227 rfl ?_
  refine g_aload_n C 1 dL_law_230 rfl rfl ?_
  refine g_arg C hX 1 rfl (by omega) hL dL_law_231 dL_law_232 dL_law_233 dL_law_234 dL_law_235 ?_
  refine g_arg C hX 2 rfl (by omega) hL dL_law_236 dL_law_237 dL_law_238 dL_law_239 dL_law_240 ?_
  refine g_cV (As := [.int (xs (i + 1)), .int (xs (i + 2))]) (rest := [.int _]) C (w_X5_person l E _ 120 _ _ (_, h2) ok_120 e2) mw_X5_person (show Cond.methodLink RL 27 yX5_person ∈ TB from tb_mem 890 (by decide +kernel) rfl) ok_120 rfl (ce5 E _ rfl) rfl (by decide) rfl (Nat.le_of_ble_eq_true rfl) dL_law_241 rfl ?_
  refine g_eqY (tgt := 1049) C dL_law_244 (by decide) ?_
  exact kk h2 hf
theorem law_c3 (C : CX E X RL cL_law 4 20) (hX : SC E X b L xs) (hL : L ≤ 2048) (hi : i + 3 < L) (hG : Gi k h X0 Y0) (hk : k ≤ 900) (kk : ∀ h9, Fin k h9 → GG l E X h9 1049 (LVX E b i) []) : GG l E X h 249 (LVX E b i) [] := by
  obtain ⟨r, h1, h2, e1, e2, hf⟩ := a_put (xs (i + 1)) (xs (i + 2)) (xs (i + 3)) h X0 Y0 hG hk
  refine g_aload_n C 2 dL_law_249 rfl rfl ?_
  refine g_arg C hX 1 rfl (by omega) hL dL_law_250 dL_law_251 dL_law_252 dL_law_253 dL_law_254 ?_
  refine g_arg C hX 2 rfl (by omega) hL dL_law_255 dL_law_256 dL_law_257 dL_law_258 dL_law_259 ?_
  refine g_arg C hX 3 rfl (by omega) hL dL_law_260 dL_law_261 dL_law_262 dL_law_263 dL_law_264 ?_
  refine g_cV (As := [.int (xs (i + 1)), .int (xs (i + 2)), .int (xs (i + 3))]) (rest := []) C (w_X4_put l E h 0 _ _ _ (r, h1) ok_0 e1) mw_X4_put (show Cond.methodLink RL 28 yX4_put ∈ TB from tb_mem 434 (by decide +kernel) rfl) ok_0 rfl (ce4 E h rfl) rfl (by decide) rfl (Nat.le_of_ble_eq_true rfl) dL_law_265 rfl ?_
  refine g_aload_n C 1 dL_law_268 rfl rfl ?_
  refine g_arg C hX 1 rfl (by omega) hL dL_law_269 dL_law_270 dL_law_271 dL_law_272 dL_law_273 ?_
  refine g_arg C hX 2 rfl (by omega) hL dL_law_274 dL_law_275 dL_law_276 dL_law_277 dL_law_278 ?_
  refine g_arg C hX 3 rfl (by omega) hL dL_law_279 dL_law_280 dL_law_281 dL_law_282 dL_law_283 ?_
  refine g_cV (As := [.int (xs (i + 1)), .int (xs (i + 2)), .int (xs (i + 3))]) (rest := [.int _]) C (w_X5_put l E _ 120 _ _ _ (_, h2) ok_120 e2) mw_X5_put (show Cond.methodLink RL 32 yX5_put ∈ TB from tb_mem 926 (by decide +kernel) rfl) ok_120 rfl (ce5 E _ rfl) rfl (by decide) rfl (Nat.le_of_ble_eq_true rfl) dL_law_284 rfl ?_
  refine g_eqY (tgt := 1049) C dL_law_287 (by decide) ?_
  exact kk h2 hf
theorem law_c4 (C : CX E X RL cL_law 4 20) (hX : SC E X b L xs) (hL : L ≤ 2048) (hi : i + 3 < L) (hG : Gi k h X0 Y0) (hk : k ≤ 900) (kk : ∀ h9, Fin k h9 → GG l E X h9 1049 (LVX E b i) []) : GG l E X h 292 (LVX E b i) [] := by
  obtain ⟨r, h1, h2, e1, e2, hf⟩ := a_set (xs (i + 1)) (xs (i + 2)) h X0 Y0 hG hk
  refine g_aload_n C 2 dL_law_292 rfl rfl ?_
  refine g_arg C hX 1 rfl (by omega) hL dL_law_293 dL_law_294 dL_law_295 dL_law_296 dL_law_297 ?_
  refine g_arg C hX 2 rfl (by omega) hL dL_law_298 dL_law_299 dL_law_300 dL_law_301 dL_law_302 ?_
  refine g_cV (As := [.int (xs (i + 1)), .int (xs (i + 2))]) (rest := []) C (w_X4_set l E h 0 _ _ (r, h1) ok_0 e1) mw_X4_set (show Cond.methodLink RL 33 yX4_set ∈ TB from tb_mem 443 (by decide +kernel) rfl) ok_0 rfl (ce4 E h rfl) rfl (by decide) rfl (Nat.le_of_ble_eq_true rfl) dL_law_303 rfl ?_
  refine g_aload_n C 1 dL_law_306 rfl rfl ?_
  refine g_arg C hX 1 rfl (by omega) hL dL_law_307 dL_law_308 dL_law_309 dL_law_310 dL_law_311 ?_
  refine g_arg C hX 2 rfl (by omega) hL dL_law_312 dL_law_313 dL_law_314 dL_law_315 dL_law_316 ?_
  refine g_cV (As := [.int (xs (i + 1)), .int (xs (i + 2))]) (rest := [.int _]) C (w_X5_set l E _ 120 _ _ (_, h2) ok_120 e2) mw_X5_set (show Cond.methodLink RL 36 yX5_set ∈ TB from tb_mem 931 (by decide +kernel) rfl) ok_120 rfl (ce5 E _ rfl) rfl (by decide) rfl (Nat.le_of_ble_eq_true rfl) dL_law_317 rfl ?_
  refine g_eqY (tgt := 1049) C dL_law_320 (by decide) ?_
  exact kk h2 hf
theorem law_c5 (C : CX E X RL cL_law 4 20) (hX : SC E X b L xs) (hL : L ≤ 2048) (hi : i + 3 < L) (hG : Gi k h X0 Y0) (hk : k ≤ 900) (kk : ∀ h9, Fin k h9 → GG l E X h9 1049 (LVX E b i) []) : GG l E X h 325 (LVX E b i) [] := by
  obtain ⟨r, h1, h2, e1, e2, hf⟩ := a_give (xs (i + 1)) (xs (i + 2)) (xs (i + 3)) h X0 Y0 hG hk
  refine g_aload_n C 2 dL_law_325 rfl rfl ?_
  refine g_arg C hX 1 rfl (by omega) hL dL_law_326 dL_law_327 dL_law_328 dL_law_329 dL_law_330 ?_
  refine g_arg C hX 2 rfl (by omega) hL dL_law_331 dL_law_332 dL_law_333 dL_law_334 dL_law_335 ?_
  refine g_arg C hX 3 rfl (by omega) hL dL_law_336 dL_law_337 dL_law_338 dL_law_339 dL_law_340 ?_
  refine g_cV (As := [.int (xs (i + 1)), .int (xs (i + 2)), .int (xs (i + 3))]) (rest := []) C (w_X4_give l E h 0 _ _ _ (r, h1) ok_0 e1) mw_X4_give (show Cond.methodLink RL 37 yX4_give ∈ TB from tb_mem 450 (by decide +kernel) rfl) ok_0 rfl (ce4 E h rfl) rfl (by decide) rfl (Nat.le_of_ble_eq_true rfl) dL_law_341 rfl ?_
  refine g_aload_n C 1 dL_law_344 rfl rfl ?_
  refine g_arg C hX 1 rfl (by omega) hL dL_law_345 dL_law_346 dL_law_347 dL_law_348 dL_law_349 ?_
  refine g_arg C hX 2 rfl (by omega) hL dL_law_350 dL_law_351 dL_law_352 dL_law_353 dL_law_354 ?_
  refine g_arg C hX 3 rfl (by omega) hL dL_law_355 dL_law_356 dL_law_357 dL_law_358 dL_law_359 ?_
  refine g_cV (As := [.int (xs (i + 1)), .int (xs (i + 2)), .int (xs (i + 3))]) (rest := [.int _]) C (w_X5_give l E _ 120 _ _ _ (_, h2) ok_120 e2) mw_X5_give (show Cond.methodLink RL 40 yX5_give ∈ TB from tb_mem 936 (by decide +kernel) rfl) ok_120 rfl (ce5 E _ rfl) rfl (by decide) rfl (Nat.le_of_ble_eq_true rfl) dL_law_360 rfl ?_
  refine g_eqY (tgt := 1049) C dL_law_363 (by decide) ?_
  exact kk h2 hf
theorem law_c6 (C : CX E X RL cL_law 4 20) (hX : SC E X b L xs) (hL : L ≤ 2048) (hi : i + 3 < L) (hG : Gi k h X0 Y0) (hk : k ≤ 900) (kk : ∀ h9, Fin k h9 → GG l E X h9 1049 (LVX E b i) []) : GG l E X h 368 (LVX E b i) [] := by
  obtain ⟨r, h1, h2, e1, e2, hf⟩ := a_evening h X0 Y0 hG hk
  refine g_aload_n C 2 dL_law_368 rfl rfl ?_
  refine g_cV (As := []) (rest := []) C (w_X4_evening l E h 0  (r, h1) ok_0 e1) mw_X4_evening (show Cond.methodLink RL 41 yX4_evening ∈ TB from tb_mem 467 (by decide +kernel) rfl) ok_0 rfl (ce4 E h rfl) rfl (by decide) rfl (Nat.le_of_ble_eq_true rfl) dL_law_369 rfl ?_
  refine g_aload_n C 1 dL_law_372 rfl rfl ?_
  refine g_cV (As := []) (rest := [.int _]) C (w_X5_evening l E _ 120  (_, h2) ok_120 e2) mw_X5_evening (show Cond.methodLink RL 44 yX5_evening ∈ TB from tb_mem 948 (by decide +kernel) rfl) ok_120 rfl (ce5 E _ rfl) rfl (by decide) rfl (Nat.le_of_ble_eq_true rfl) dL_law_373 rfl ?_
  refine g_eqY (tgt := 1049) C dL_law_376 (by decide) ?_
  exact kk h2 hf
theorem law_c7 (C : CX E X RL cL_law 4 20) (hX : SC E X b L xs) (hL : L ≤ 2048) (hi : i + 3 < L) (hG : Gi k h X0 Y0) (hk : k ≤ 900) (kk : ∀ h9, Fin k h9 → GG l E X h9 1049 (LVX E b i) []) : GG l E X h 381 (LVX E b i) [] := by
  obtain ⟨r, h1, h2, e1, e2, hf⟩ := a_day h X0 Y0 hG hk
  refine g_aload_n C 2 dL_law_381 rfl rfl ?_
  refine g_cV (As := []) (rest := []) C (w_X4_day l E h 0  (r, h1) ok_0 e1) mw_X4_day (show Cond.methodLink RL 45 yX4_day ∈ TB from tb_mem 482 (by decide +kernel) rfl) ok_0 rfl (ce4 E h rfl) rfl (by decide) rfl (Nat.le_of_ble_eq_true rfl) dL_law_382 rfl ?_
  refine g_aload_n C 1 dL_law_385 rfl rfl ?_
  refine g_cV (As := []) (rest := [.int _]) C (w_X5_day l E _ 120  (_, h2) ok_120 e2) mw_X5_day (show Cond.methodLink RL 48 yX5_day ∈ TB from tb_mem 956 (by decide +kernel) rfl) ok_120 rfl (ce5 E _ rfl) rfl (by decide) rfl (Nat.le_of_ble_eq_true rfl) dL_law_386 rfl ?_
  refine g_eqY (tgt := 1049) C dL_law_389 (by decide) ?_
  exact kk h2 hf
theorem law_c8 (C : CX E X RL cL_law 4 20) (hX : SC E X b L xs) (hL : L ≤ 2048) (hi : i + 3 < L) (hG : Gi k h X0 Y0) (hk : k ≤ 900) (kk : ∀ h9, Fin k h9 → GG l E X h9 1049 (LVX E b i) []) : GG l E X h 394 (LVX E b i) [] := by
  obtain ⟨r, h1, h2, e1, e2, hf⟩ := a_gives (xs (i + 1)) h X0 Y0 hG hk
  refine g_aload_n C 2 dL_law_394 rfl rfl ?_
  refine g_arg C hX 1 rfl (by omega) hL dL_law_395 dL_law_396 dL_law_397 dL_law_398 dL_law_399 ?_
  refine g_cV (As := [.int (xs (i + 1))]) (rest := []) C (w_X4_gives l E h 0 _ (r, h1) ok_0 e1) mw_X4_gives (show Cond.methodLink RL 49 yX4_gives ∈ TB from tb_mem 519 (by decide +kernel) rfl) ok_0 rfl (ce4 E h rfl) rfl (by decide) rfl (Nat.le_of_ble_eq_true rfl) dL_law_400 rfl ?_
  refine g_aload_n C 1 dL_law_403 rfl rfl ?_
  refine g_arg C hX 1 rfl (by omega) hL dL_law_404 dL_law_405 dL_law_406 dL_law_407 dL_law_408 ?_
  refine g_cV (As := [.int (xs (i + 1))]) (rest := [.int _]) C (w_X5_gives l E _ 120 _ (_, h2) ok_120 e2) mw_X5_gives (show Cond.methodLink RL 52 yX5_gives ∈ TB from tb_mem 980 (by decide +kernel) rfl) ok_120 rfl (ce5 E _ rfl) rfl (by decide) rfl (Nat.le_of_ble_eq_true rfl) dL_law_409 rfl ?_
  refine g_eqY (tgt := 1049) C dL_law_412 (by decide) ?_
  exact kk h2 hf
theorem law_c9 (C : CX E X RL cL_law 4 20) (hX : SC E X b L xs) (hL : L ≤ 2048) (hi : i + 3 < L) (hG : Gi k h X0 Y0) (hk : k ≤ 900) (kk : ∀ h9, Fin k h9 → GG l E X h9 1049 (LVX E b i) []) : GG l E X h 417 (LVX E b i) [] := by
  obtain ⟨r, h1, h2, e1, e2, hf⟩ := a_after (xs (i + 1)) (xs (i + 2)) h X0 Y0 hG hk
  refine g_aload_n C 2 dL_law_417 rfl rfl ?_
  refine g_arg C hX 1 rfl (by omega) hL dL_law_418 dL_law_419 dL_law_420 dL_law_421 dL_law_422 ?_
  refine g_arg C hX 2 rfl (by omega) hL dL_law_423 dL_law_424 dL_law_425 dL_law_426 dL_law_427 ?_
  refine g_cV (As := [.int (xs (i + 1)), .int (xs (i + 2))]) (rest := []) C (w_X4_after l E h 0 _ _ (r, h1) ok_0 e1) mw_X4_after (show Cond.methodLink RL 53 yX4_after ∈ TB from tb_mem 527 (by decide +kernel) rfl) ok_0 rfl (ce4 E h rfl) rfl (by decide) rfl (Nat.le_of_ble_eq_true rfl) dL_law_428 rfl ?_
  refine g_aload_n C 1 dL_law_431 rfl rfl ?_
  refine g_arg C hX 1 rfl (by omega) hL dL_law_432 dL_law_433 dL_law_434 dL_law_435 dL_law_436 ?_
  refine g_arg C hX 2 rfl (by omega) hL dL_law_437 dL_law_438 dL_law_439 dL_law_440 dL_law_441 ?_
  refine g_cV (As := [.int (xs (i + 1)), .int (xs (i + 2))]) (rest := [.int _]) C (w_X5_after l E _ 120 _ _ (_, h2) ok_120 e2) mw_X5_after (show Cond.methodLink RL 56 yX5_after ∈ TB from tb_mem 984 (by decide +kernel) rfl) ok_120 rfl (ce5 E _ rfl) rfl (by decide) rfl (Nat.le_of_ble_eq_true rfl) dL_law_442 rfl ?_
  refine g_eqY (tgt := 1049) C dL_law_445 (by decide) ?_
  exact kk h2 hf
theorem law_c10 (C : CX E X RL cL_law 4 20) (hX : SC E X b L xs) (hL : L ≤ 2048) (hi : i + 3 < L) (hG : Gi k h X0 Y0) (hk : k ≤ 900) (kk : ∀ h9, Fin k h9 → GG l E X h9 1049 (LVX E b i) []) : GG l E X h 450 (LVX E b i) [] := by
  obtain ⟨r, h1, h2, e1, e2, hf⟩ := a_all (xs (i + 1)) h X0 Y0 hG hk
  refine g_aload_n C 2 dL_law_450 rfl rfl ?_
  refine g_arg C hX 1 rfl (by omega) hL dL_law_451 dL_law_452 dL_law_453 dL_law_454 dL_law_455 ?_
  refine g_cV (As := [.int (xs (i + 1))]) (rest := []) C (w_X4_all l E h 0 _ (r, h1) ok_0 e1) mw_X4_all (show Cond.methodLink RL 57 yX4_all ∈ TB from tb_mem 544 (by decide +kernel) rfl) ok_0 rfl (ce4 E h rfl) rfl (by decide) rfl (Nat.le_of_ble_eq_true rfl) dL_law_456 rfl ?_
  refine g_aload_n C 1 dL_law_459 rfl rfl ?_
  refine g_arg C hX 1 rfl (by omega) hL dL_law_460 dL_law_461 dL_law_462 dL_law_463 dL_law_464 ?_
  refine g_cV (As := [.int (xs (i + 1))]) (rest := [.int _]) C (w_X5_all_ l E _ 120 _ (_, h2) ok_120 e2) mw_X5_all_ (show Cond.methodLink RL 60 yX5_all_ ∈ TB from tb_mem 1019 (by decide +kernel) rfl) ok_120 rfl (ce5 E _ rfl) rfl (by decide) rfl (Nat.le_of_ble_eq_true rfl) dL_law_465 rfl ?_
  refine g_eqY (tgt := 1049) C dL_law_468 (by decide) ?_
  exact kk h2 hf
theorem law_c11 (C : CX E X RL cL_law 4 20) (hX : SC E X b L xs) (hL : L ≤ 2048) (hi : i + 3 < L) (hG : Gi k h X0 Y0) (hk : k ≤ 900) (kk : ∀ h9, Fin k h9 → GG l E X h9 1049 (LVX E b i) []) : GG l E X h 473 (LVX E b i) [] := by
  obtain ⟨r, h1, h2, e1, e2, hf⟩ := a_enough (xs (i + 1)) (xs (i + 2)) h X0 Y0 hG hk
  refine g_aload_n C 2 dL_law_473 rfl rfl ?_
  refine g_arg C hX 1 rfl (by omega) hL dL_law_474 dL_law_475 dL_law_476 dL_law_477 dL_law_478 ?_
  refine g_arg C hX 2 rfl (by omega) hL dL_law_479 dL_law_480 dL_law_481 dL_law_482 dL_law_483 ?_
  refine g_cV (As := [.int (xs (i + 1)), .int (xs (i + 2))]) (rest := []) C (w_X4_enough l E h 0 _ _ (r, h1) ok_0 e1) mw_X4_enough (show Cond.methodLink RL 61 yX4_enough ∈ TB from tb_mem 552 (by decide +kernel) rfl) ok_0 rfl (ce4 E h rfl) rfl (by decide) rfl (Nat.le_of_ble_eq_true rfl) dL_law_484 rfl ?_
  refine g_aload_n C 1 dL_law_487 rfl rfl ?_
  refine g_arg C hX 1 rfl (by omega) hL dL_law_488 dL_law_489 dL_law_490 dL_law_491 dL_law_492 ?_
  refine g_arg C hX 2 rfl (by omega) hL dL_law_493 dL_law_494 dL_law_495 dL_law_496 dL_law_497 ?_
  refine g_cV (As := [.int (xs (i + 1)), .int (xs (i + 2))]) (rest := [.int _]) C (w_X5_enough l E _ 120 _ _ (_, h2) ok_120 e2) mw_X5_enough (show Cond.methodLink RL 64 yX5_enough ∈ TB from tb_mem 1031 (by decide +kernel) rfl) ok_120 rfl (ce5 E _ rfl) rfl (by decide) rfl (Nat.le_of_ble_eq_true rfl) dL_law_498 rfl ?_
  refine g_eqY (tgt := 1049) C dL_law_501 (by decide) ?_
  exact kk h2 hf
theorem law_c12 (C : CX E X RL cL_law 4 20) (hX : SC E X b L xs) (hL : L ≤ 2048) (hi : i + 3 < L) (hG : Gi k h X0 Y0) (hk : k ≤ 900) (kk : ∀ h9, Fin k h9 → GG l E X h9 1049 (LVX E b i) []) : GG l E X h 506 (LVX E b i) [] := by
  obtain ⟨r, h1, h2, e1, e2, hf⟩ := a_richest (xs (i + 1)) h X0 Y0 hG hk
  refine g_aload_n C 2 dL_law_506 rfl rfl ?_
  refine g_arg C hX 1 rfl (by omega) hL dL_law_507 dL_law_508 dL_law_509 dL_law_510 dL_law_511 ?_
  refine g_cV (As := [.int (xs (i + 1))]) (rest := []) C (w_X4_richest l E h 0 _ (r, h1) ok_0 e1) mw_X4_richest (show Cond.methodLink RL 65 yX4_richest ∈ TB from tb_mem 556 (by decide +kernel) rfl) ok_0 rfl (ce4 E h rfl) rfl (by decide) rfl (Nat.le_of_ble_eq_true rfl) dL_law_512 rfl ?_
  refine g_aload_n C 1 dL_law_515 rfl rfl ?_
  refine g_arg C hX 1 rfl (by omega) hL dL_law_516 dL_law_517 dL_law_518 dL_law_519 dL_law_520 ?_
  refine g_cV (As := [.int (xs (i + 1))]) (rest := [.int _]) C (w_X5_richest l E _ 120 _ (_, h2) ok_120 e2) mw_X5_richest (show Cond.methodLink RL 68 yX5_richest ∈ TB from tb_mem 1035 (by decide +kernel) rfl) ok_120 rfl (ce5 E _ rfl) rfl (by decide) rfl (Nat.le_of_ble_eq_true rfl) dL_law_521 rfl ?_
  refine g_eqY (tgt := 1049) C dL_law_524 (by decide) ?_
  exact kk h2 hf
theorem law_c13 (C : CX E X RL cL_law 4 20) (hX : SC E X b L xs) (hL : L ≤ 2048) (hi : i + 3 < L) (hG : Gi k h X0 Y0) (hk : k ≤ 900) (kk : ∀ h9, Fin k h9 → GG l E X h9 1049 (LVX E b i) []) : GG l E X h 529 (LVX E b i) [] := by
  obtain ⟨r, h1, h2, e1, e2, hf⟩ := a_lost (xs (i + 1)) h X0 Y0 hG hk
  refine g_aload_n C 2 dL_law_529 rfl rfl ?_
  refine g_arg C hX 1 rfl (by omega) hL dL_law_530 dL_law_531 dL_law_532 dL_law_533 dL_law_534 ?_
  refine g_cV (As := [.int (xs (i + 1))]) (rest := []) C (w_X4_lost l E h 0 _ (r, h1) ok_0 e1) mw_X4_lost (show Cond.methodLink RL 69 yX4_lost ∈ TB from tb_mem 564 (by decide +kernel) rfl) ok_0 rfl (ce4 E h rfl) rfl (by decide) rfl (Nat.le_of_ble_eq_true rfl) dL_law_535 rfl ?_
  refine g_aload_n C 1 dL_law_538 rfl rfl ?_
  refine g_arg C hX 1 rfl (by omega) hL dL_law_539 dL_law_540 dL_law_541 dL_law_542 dL_law_543 ?_
  refine g_cV (As := [.int (xs (i + 1))]) (rest := [.int _]) C (w_X5_lost l E _ 120 _ (_, h2) ok_120 e2) mw_X5_lost (show Cond.methodLink RL 72 yX5_lost ∈ TB from tb_mem 1043 (by decide +kernel) rfl) ok_120 rfl (ce5 E _ rfl) rfl (by decide) rfl (Nat.le_of_ble_eq_true rfl) dL_law_544 rfl ?_
  refine g_eqY (tgt := 1049) C dL_law_547 (by decide) ?_
  exact kk h2 hf
theorem law_c14 (C : CX E X RL cL_law 4 20) (hX : SC E X b L xs) (hL : L ≤ 2048) (hi : i + 3 < L) (hG : Gi k h X0 Y0) (hk : k ≤ 900) (kk : ∀ h9, Fin k h9 → GG l E X h9 1049 (LVX E b i) []) : GG l E X h 552 (LVX E b i) [] := by
  obtain ⟨r, h1, h2, e1, e2, hf⟩ := a_grows (xs (i + 1)) h X0 Y0 hG hk
  refine g_aload_n C 2 dL_law_552 rfl rfl ?_
  refine g_arg C hX 1 rfl (by omega) hL dL_law_553 dL_law_554 dL_law_555 dL_law_556 dL_law_557 ?_
  refine g_cV (As := [.int (xs (i + 1))]) (rest := []) C (w_X4_grows l E h 0 _ (r, h1) ok_0 e1) mw_X4_grows (show Cond.methodLink RL 73 yX4_grows ∈ TB from tb_mem 568 (by decide +kernel) rfl) ok_0 rfl (ce4 E h rfl) rfl (by decide) rfl (Nat.le_of_ble_eq_true rfl) dL_law_558 rfl ?_
  refine g_aload_n C 1 dL_law_561 rfl rfl ?_
  refine g_arg C hX 1 rfl (by omega) hL dL_law_562 dL_law_563 dL_law_564 dL_law_565 dL_law_566 ?_
  refine g_cV (As := [.int (xs (i + 1))]) (rest := [.int _]) C (w_X5_grows l E _ 120 _ (_, h2) ok_120 e2) mw_X5_grows (show Cond.methodLink RL 76 yX5_grows ∈ TB from tb_mem 1047 (by decide +kernel) rfl) ok_120 rfl (ce5 E _ rfl) rfl (by decide) rfl (Nat.le_of_ble_eq_true rfl) dL_law_567 rfl ?_
  refine g_eqY (tgt := 1049) C dL_law_570 (by decide) ?_
  exact kk h2 hf
theorem law_c15 (C : CX E X RL cL_law 4 20) (hX : SC E X b L xs) (hL : L ≤ 2048) (hi : i + 3 < L) (hG : Gi k h X0 Y0) (hk : k ≤ 900) (kk : ∀ h9, Fin k h9 → GG l E X h9 1049 (LVX E b i) []) : GG l E X h 575 (LVX E b i) [] := by
  obtain ⟨r, h1, h2, e1, e2, hf⟩ := a_rest h X0 Y0 hG hk
  refine g_aload_n C 2 dL_law_575 rfl rfl ?_
  refine g_cV (As := []) (rest := []) C (w_X4_rest l E h 0  (r, h1) ok_0 e1) mw_X4_rest (show Cond.methodLink RL 77 yX4_rest ∈ TB from tb_mem 572 (by decide +kernel) rfl) ok_0 rfl (ce4 E h rfl) rfl (by decide) rfl (Nat.le_of_ble_eq_true rfl) dL_law_576 rfl ?_
  refine g_aload_n C 1 dL_law_579 rfl rfl ?_
  refine g_cV (As := []) (rest := [.int _]) C (w_X5_rest l E _ 120  (_, h2) ok_120 e2) mw_X5_rest (show Cond.methodLink RL 80 yX5_rest ∈ TB from tb_mem 1051 (by decide +kernel) rfl) ok_120 rfl (ce5 E _ rfl) rfl (by decide) rfl (Nat.le_of_ble_eq_true rfl) dL_law_580 rfl ?_
  refine g_eqY (tgt := 1049) C dL_law_583 (by decide) ?_
  exact kk h2 hf
theorem law_c16 (C : CX E X RL cL_law 4 20) (hX : SC E X b L xs) (hL : L ≤ 2048) (hi : i + 3 < L) (hG : Gi k h X0 Y0) (hk : k ≤ 900) (kk : ∀ h9, Fin k h9 → GG l E X h9 1049 (LVX E b i) []) : GG l E X h 588 (LVX E b i) [] := by
  obtain ⟨r, h1, h2, e1, e2, hf⟩ := a_most (xs (i + 1)) (xs (i + 2)) h X0 Y0 hG hk
  refine g_aload_n C 2 dL_law_588 rfl rfl ?_
  refine g_arg C hX 1 rfl (by omega) hL dL_law_589 dL_law_590 dL_law_591 dL_law_592 dL_law_593 ?_
  refine g_arg C hX 2 rfl (by omega) hL dL_law_594 dL_law_595 dL_law_596 dL_law_597 dL_law_598 ?_
  refine g_cV (As := [.int (xs (i + 1)), .int (xs (i + 2))]) (rest := []) C (w_X4_most l E h 0 _ _ (r, h1) ok_0 e1) mw_X4_most (show Cond.methodLink RL 81 yX4_most ∈ TB from tb_mem 581 (by decide +kernel) rfl) ok_0 rfl (ce4 E h rfl) rfl (by decide) rfl (Nat.le_of_ble_eq_true rfl) dL_law_599 rfl ?_
  refine g_aload_n C 1 dL_law_602 rfl rfl ?_
  refine g_arg C hX 1 rfl (by omega) hL dL_law_603 dL_law_604 dL_law_605 dL_law_606 dL_law_607 ?_
  refine g_arg C hX 2 rfl (by omega) hL dL_law_608 dL_law_609 dL_law_610 dL_law_611 dL_law_612 ?_
  refine g_cV (As := [.int (xs (i + 1)), .int (xs (i + 2))]) (rest := [.int _]) C (w_X5_most l E _ 120 _ _ (_, h2) ok_120 e2) mw_X5_most (show Cond.methodLink RL 84 yX5_most ∈ TB from tb_mem 1059 (by decide +kernel) rfl) ok_120 rfl (ce5 E _ rfl) rfl (by decide) rfl (Nat.le_of_ble_eq_true rfl) dL_law_613 rfl ?_
  refine g_eqY (tgt := 1049) C dL_law_616 (by decide) ?_
  exact kk h2 hf
theorem law_c17 (C : CX E X RL cL_law 4 20) (hX : SC E X b L xs) (hL : L ≤ 2048) (hi : i + 3 < L) (hG : Gi k h X0 Y0) (hk : k ≤ 900) (kk : ∀ h9, Fin k h9 → GG l E X h9 1049 (LVX E b i) []) : GG l E X h 621 (LVX E b i) [] := by
  obtain ⟨r, h1, h2, e1, e2, hf⟩ := a_choice (xs (i + 1)) (xs (i + 2)) (xs (i + 3)) h X0 Y0 hG hk
  refine g_aload_n C 2 dL_law_621 rfl rfl ?_
  refine g_arg C hX 1 rfl (by omega) hL dL_law_622 dL_law_623 dL_law_624 dL_law_625 dL_law_626 ?_
  refine g_arg C hX 2 rfl (by omega) hL dL_law_627 dL_law_628 dL_law_629 dL_law_630 dL_law_631 ?_
  refine g_arg C hX 3 rfl (by omega) hL dL_law_632 dL_law_633 dL_law_634 dL_law_635 dL_law_636 ?_
  refine g_cV (As := [.int (xs (i + 1)), .int (xs (i + 2)), .int (xs (i + 3))]) (rest := []) C (w_X4_choice l E h 0 _ _ _ (r, h1) ok_0 e1) mw_X4_choice (show Cond.methodLink RL 85 yX4_choice ∈ TB from tb_mem 603 (by decide +kernel) rfl) ok_0 rfl (ce4 E h rfl) rfl (by decide) rfl (Nat.le_of_ble_eq_true rfl) dL_law_637 rfl ?_
  refine g_aload_n C 1 dL_law_640 rfl rfl ?_
  refine g_arg C hX 1 rfl (by omega) hL dL_law_641 dL_law_642 dL_law_643 dL_law_644 dL_law_645 ?_
  refine g_arg C hX 2 rfl (by omega) hL dL_law_646 dL_law_647 dL_law_648 dL_law_649 dL_law_650 ?_
  refine g_arg C hX 3 rfl (by omega) hL dL_law_651 dL_law_652 dL_law_653 dL_law_654 dL_law_655 ?_
  refine g_cV (As := [.int (xs (i + 1)), .int (xs (i + 2)), .int (xs (i + 3))]) (rest := [.int _]) C (w_X5_choice l E _ 120 _ _ _ (_, h2) ok_120 e2) mw_X5_choice (show Cond.methodLink RL 88 yX5_choice ∈ TB from tb_mem 1078 (by decide +kernel) rfl) ok_120 rfl (ce5 E _ rfl) rfl (by decide) rfl (Nat.le_of_ble_eq_true rfl) dL_law_656 rfl ?_
  refine g_eqY (tgt := 1049) C dL_law_659 (by decide) ?_
  exact kk h2 hf
theorem law_c18 (C : CX E X RL cL_law 4 20) (hX : SC E X b L xs) (hL : L ≤ 2048) (hi : i + 3 < L) (hG : Gi k h X0 Y0) (hk : k ≤ 900) (kk : ∀ h9, Fin k h9 → GG l E X h9 1049 (LVX E b i) []) : GG l E X h 664 (LVX E b i) [] := by
  obtain ⟨r, h1, h2, e1, e2, hf⟩ := a_gap (xs (i + 1)) (xs (i + 2)) h X0 Y0 hG hk
  refine g_aload_n C 2 dL_law_664 rfl rfl ?_
  refine g_arg C hX 1 rfl (by omega) hL dL_law_665 dL_law_666 dL_law_667 dL_law_668 dL_law_669 ?_
  refine g_arg C hX 2 rfl (by omega) hL dL_law_670 dL_law_671 dL_law_672 dL_law_673 dL_law_674 ?_
  refine g_cV (As := [.int (xs (i + 1)), .int (xs (i + 2))]) (rest := []) C (w_X4_gap l E h 0 _ _ (r, h1) ok_0 e1) mw_X4_gap (show Cond.methodLink RL 89 yX4_gap ∈ TB from tb_mem 607 (by decide +kernel) rfl) ok_0 rfl (ce4 E h rfl) rfl (by decide) rfl (Nat.le_of_ble_eq_true rfl) dL_law_675 rfl ?_
  refine g_aload_n C 1 dL_law_678 rfl rfl ?_
  refine g_arg C hX 1 rfl (by omega) hL dL_law_679 dL_law_680 dL_law_681 dL_law_682 dL_law_683 ?_
  refine g_arg C hX 2 rfl (by omega) hL dL_law_684 dL_law_685 dL_law_686 dL_law_687 dL_law_688 ?_
  refine g_cV (As := [.int (xs (i + 1)), .int (xs (i + 2))]) (rest := [.int _]) C (w_X5_gap l E _ 120 _ _ (_, h2) ok_120 e2) mw_X5_gap (show Cond.methodLink RL 92 yX5_gap ∈ TB from tb_mem 1082 (by decide +kernel) rfl) ok_120 rfl (ce5 E _ rfl) rfl (by decide) rfl (Nat.le_of_ble_eq_true rfl) dL_law_689 rfl ?_
  refine g_eqY (tgt := 1049) C dL_law_692 (by decide) ?_
  exact kk h2 hf
theorem law_c19 (C : CX E X RL cL_law 4 20) (hX : SC E X b L xs) (hL : L ≤ 2048) (hi : i + 3 < L) (hG : Gi k h X0 Y0) (hk : k ≤ 900) (kk : ∀ h9, Fin k h9 → GG l E X h9 1049 (LVX E b i) []) : GG l E X h 697 (LVX E b i) [] := by
  obtain ⟨r, h1, h2, e1, e2, hf⟩ := a_feast (xs (i + 1)) (xs (i + 2)) (xs (i + 3)) h X0 Y0 hG hk
  refine g_aload_n C 2 dL_law_697 rfl rfl ?_
  refine g_arg C hX 1 rfl (by omega) hL dL_law_698 dL_law_699 dL_law_700 dL_law_701 dL_law_702 ?_
  refine g_arg C hX 2 rfl (by omega) hL dL_law_703 dL_law_704 dL_law_705 dL_law_706 dL_law_707 ?_
  refine g_arg C hX 3 rfl (by omega) hL dL_law_708 dL_law_709 dL_law_710 dL_law_711 dL_law_712 ?_
  refine g_cV (As := [.int (xs (i + 1)), .int (xs (i + 2)), .int (xs (i + 3))]) (rest := []) C (w_X4_feast l E h 0 _ _ _ (r, h1) ok_0 e1) mw_X4_feast (show Cond.methodLink RL 93 yX4_feast ∈ TB from tb_mem 612 (by decide +kernel) rfl) ok_0 rfl (ce4 E h rfl) rfl (by decide) rfl (Nat.le_of_ble_eq_true rfl) dL_law_713 rfl ?_
  refine g_aload_n C 1 dL_law_716 rfl rfl ?_
  refine g_arg C hX 1 rfl (by omega) hL dL_law_717 dL_law_718 dL_law_719 dL_law_720 dL_law_721 ?_
  refine g_arg C hX 2 rfl (by omega) hL dL_law_722 dL_law_723 dL_law_724 dL_law_725 dL_law_726 ?_
  refine g_arg C hX 3 rfl (by omega) hL dL_law_727 dL_law_728 dL_law_729 dL_law_730 dL_law_731 ?_
  refine g_cV (As := [.int (xs (i + 1)), .int (xs (i + 2)), .int (xs (i + 3))]) (rest := [.int _]) C (w_X5_feast l E _ 120 _ _ _ (_, h2) ok_120 e2) mw_X5_feast (show Cond.methodLink RL 96 yX5_feast ∈ TB from tb_mem 1087 (by decide +kernel) rfl) ok_120 rfl (ce5 E _ rfl) rfl (by decide) rfl (Nat.le_of_ble_eq_true rfl) dL_law_732 rfl ?_
  refine g_eqY (tgt := 1049) C dL_law_735 (by decide) ?_
  exact kk h2 hf
theorem law_c20 (C : CX E X RL cL_law 4 20) (hX : SC E X b L xs) (hL : L ≤ 2048) (hi : i + 3 < L) (hG : Gi k h X0 Y0) (hk : k ≤ 900) (kk : ∀ h9, Fin k h9 → GG l E X h9 1049 (LVX E b i) []) : GG l E X h 740 (LVX E b i) [] := by
  obtain ⟨r, h1, h2, e1, e2, hf⟩ := a_begins h X0 Y0 hG hk
  obtain ⟨v, ev, e3⟩ := bnd e1
  cases e3
  refine g_aload_n C 2 dL_law_740 rfl rfl ?_
  refine g_cV (As := []) (rest := []) C (w_X4_begins l E h 0  _ ok_0 ev) mw_X4_begins (show Cond.methodLink RL 97 yX4_begins ∈ TB from tb_mem 620 (by decide +kernel) rfl) ok_0 rfl (ce4 E h rfl) rfl (by decide) rfl (Nat.le_of_ble_eq_true rfl) dL_law_741 rfl ?_
  refine g_aload_n C 1 dL_law_744 rfl rfl ?_
  refine g_cV (As := []) (rest := [.int _]) C (w_X5_begins l E _ 120  (_, h2) ok_120 e2) mw_X5_begins (show Cond.methodLink RL 100 yX5_begins ∈ TB from tb_mem 1091 (by decide +kernel) rfl) ok_120 rfl (ce5 E _ rfl) rfl (by decide) rfl (Nat.le_of_ble_eq_true rfl) dL_law_745 rfl ?_
  refine g_eqY (tgt := 1049) C dL_law_748 (by decide) ?_
  exact kk h2 hf
theorem law_c21 (C : CX E X RL cL_law 4 20) (hX : SC E X b L xs) (hL : L ≤ 2048) (hi : i + 3 < L) (hG : Gi k h X0 Y0) (hk : k ≤ 900) (kk : ∀ h9, Fin k h9 → GG l E X h9 1049 (LVX E b i) []) : GG l E X h 753 (LVX E b i) [] := by
  obtain ⟨r, h1, h2, e1, e2, hf⟩ := a_helps h X0 Y0 hG hk
  obtain ⟨v, ev, e3⟩ := bnd e1
  cases e3
  refine g_aload_n C 2 dL_law_753 rfl rfl ?_
  refine g_cV (As := []) (rest := []) C (w_X4_helps l E h 0  _ ok_0 ev) mw_X4_helps (show Cond.methodLink RL 101 yX4_helps ∈ TB from tb_mem 632 (by decide +kernel) rfl) ok_0 rfl (ce4 E h rfl) rfl (by decide) rfl (Nat.le_of_ble_eq_true rfl) dL_law_754 rfl ?_
  refine g_aload_n C 1 dL_law_757 rfl rfl ?_
  refine g_cV (As := []) (rest := [.int _]) C (w_X5_helps l E _ 120  (_, h2) ok_120 e2) mw_X5_helps (show Cond.methodLink RL 104 yX5_helps ∈ TB from tb_mem 1103 (by decide +kernel) rfl) ok_120 rfl (ce5 E _ rfl) rfl (by decide) rfl (Nat.le_of_ble_eq_true rfl) dL_law_758 rfl ?_
  refine g_eqY (tgt := 1049) C dL_law_761 (by decide) ?_
  exact kk h2 hf
theorem law_c22 (C : CX E X RL cL_law 4 20) (hX : SC E X b L xs) (hL : L ≤ 2048) (hi : i + 3 < L) (hG : Gi k h X0 Y0) (hk : k ≤ 900) (kk : ∀ h9, Fin k h9 → GG l E X h9 1049 (LVX E b i) []) : GG l E X h 766 (LVX E b i) [] := by
  obtain ⟨r, h1, h2, e1, e2, hf⟩ := a_byLaw (xs (i + 1)) (xs (i + 2)) (xs (i + 3)) h X0 Y0 hG hk
  refine g_aload_n C 2 dL_law_766 rfl rfl ?_
  refine g_arg C hX 1 rfl (by omega) hL dL_law_767 dL_law_768 dL_law_769 dL_law_770 dL_law_771 ?_
  refine g_arg C hX 2 rfl (by omega) hL dL_law_772 dL_law_773 dL_law_774 dL_law_775 dL_law_776 ?_
  refine g_arg C hX 3 rfl (by omega) hL dL_law_777 dL_law_778 dL_law_779 dL_law_780 dL_law_781 ?_
  refine g_cV (As := [.int (xs (i + 1)), .int (xs (i + 2)), .int (xs (i + 3))]) (rest := []) C (w_X4_byLaw l E h 0 _ _ _ (r, h1) ok_0 e1) mw_X4_byLaw (show Cond.methodLink RL 105 yX4_byLaw ∈ TB from tb_mem 642 (by decide +kernel) rfl) ok_0 rfl (ce4 E h rfl) rfl (by decide) rfl (Nat.le_of_ble_eq_true rfl) dL_law_782 rfl ?_
  refine g_aload_n C 1 dL_law_785 rfl rfl ?_
  refine g_arg C hX 1 rfl (by omega) hL dL_law_786 dL_law_787 dL_law_788 dL_law_789 dL_law_790 ?_
  refine g_arg C hX 2 rfl (by omega) hL dL_law_791 dL_law_792 dL_law_793 dL_law_794 dL_law_795 ?_
  refine g_arg C hX 3 rfl (by omega) hL dL_law_796 dL_law_797 dL_law_798 dL_law_799 dL_law_800 ?_
  refine g_cV (As := [.int (xs (i + 1)), .int (xs (i + 2)), .int (xs (i + 3))]) (rest := [.int _]) C (w_X5_byLaw l E _ 120 _ _ _ (_, h2) ok_120 e2) mw_X5_byLaw (show Cond.methodLink RL 108 yX5_byLaw ∈ TB from tb_mem 1107 (by decide +kernel) rfl) ok_120 rfl (ce5 E _ rfl) rfl (by decide) rfl (Nat.le_of_ble_eq_true rfl) dL_law_801 rfl ?_
  refine g_eqY (tgt := 1049) C dL_law_804 (by decide) ?_
  exact kk h2 hf
theorem law_c23 (C : CX E X RL cL_law 4 20) (hX : SC E X b L xs) (hL : L ≤ 2048) (hi : i + 3 < L) (hG : Gi k h X0 Y0) (hk : k ≤ 900) (kk : ∀ h9, Fin k h9 → GG l E X h9 1049 (LVX E b i) []) : GG l E X h 809 (LVX E b i) [] := by
  obtain ⟨r, h1, h2, e1, e2, hf⟩ := a_byBack (xs (i + 1)) (xs (i + 2)) (xs (i + 3)) h X0 Y0 hG hk
  refine g_aload_n C 2 dL_law_809 rfl rfl ?_
  refine g_arg C hX 1 rfl (by omega) hL dL_law_810 dL_law_811 dL_law_812 dL_law_813 dL_law_814 ?_
  refine g_arg C hX 2 rfl (by omega) hL dL_law_815 dL_law_816 dL_law_817 dL_law_818 dL_law_819 ?_
  refine g_arg C hX 3 rfl (by omega) hL dL_law_820 dL_law_821 dL_law_822 dL_law_823 dL_law_824 ?_
  refine g_cV (As := [.int (xs (i + 1)), .int (xs (i + 2)), .int (xs (i + 3))]) (rest := []) C (w_X4_byBack l E h 0 _ _ _ (r, h1) ok_0 e1) mw_X4_byBack (show Cond.methodLink RL 109 yX4_byBack ∈ TB from tb_mem 650 (by decide +kernel) rfl) ok_0 rfl (ce4 E h rfl) rfl (by decide) rfl (Nat.le_of_ble_eq_true rfl) dL_law_825 rfl ?_
  refine g_aload_n C 1 dL_law_828 rfl rfl ?_
  refine g_arg C hX 1 rfl (by omega) hL dL_law_829 dL_law_830 dL_law_831 dL_law_832 dL_law_833 ?_
  refine g_arg C hX 2 rfl (by omega) hL dL_law_834 dL_law_835 dL_law_836 dL_law_837 dL_law_838 ?_
  refine g_arg C hX 3 rfl (by omega) hL dL_law_839 dL_law_840 dL_law_841 dL_law_842 dL_law_843 ?_
  refine g_cV (As := [.int (xs (i + 1)), .int (xs (i + 2)), .int (xs (i + 3))]) (rest := [.int _]) C (w_X5_byBack l E _ 120 _ _ _ (_, h2) ok_120 e2) mw_X5_byBack (show Cond.methodLink RL 112 yX5_byBack ∈ TB from tb_mem 1115 (by decide +kernel) rfl) ok_120 rfl (ce5 E _ rfl) rfl (by decide) rfl (Nat.le_of_ble_eq_true rfl) dL_law_844 rfl ?_
  refine g_eqY (tgt := 1049) C dL_law_847 (by decide) ?_
  exact kk h2 hf
theorem law_c24 (C : CX E X RL cL_law 4 20) (hX : SC E X b L xs) (hL : L ≤ 2048) (hi : i + 3 < L) (hG : Gi k h X0 Y0) (hk : k ≤ 900) (kk : ∀ h9, Fin k h9 → GG l E X h9 1049 (LVX E b i) []) : GG l E X h 852 (LVX E b i) [] := by
  obtain ⟨r, h1, h2, e1, e2, hf⟩ := a_leastLaw (xs (i + 1)) (xs (i + 2)) h X0 Y0 hG hk
  refine g_aload_n C 2 dL_law_852 rfl rfl ?_
  refine g_arg C hX 1 rfl (by omega) hL dL_law_853 dL_law_854 dL_law_855 dL_law_856 dL_law_857 ?_
  refine g_arg C hX 2 rfl (by omega) hL dL_law_858 dL_law_859 dL_law_860 dL_law_861 dL_law_862 ?_
  refine g_cV (As := [.int (xs (i + 1)), .int (xs (i + 2))]) (rest := []) C (w_X4_leastLaw l E h 0 _ _ (r, h1) ok_0 e1) mw_X4_leastLaw (show Cond.methodLink RL 113 yX4_leastLaw ∈ TB from tb_mem 654 (by decide +kernel) rfl) ok_0 rfl (ce4 E h rfl) rfl (by decide) rfl (Nat.le_of_ble_eq_true rfl) dL_law_863 rfl ?_
  refine g_aload_n C 1 dL_law_866 rfl rfl ?_
  refine g_arg C hX 1 rfl (by omega) hL dL_law_867 dL_law_868 dL_law_869 dL_law_870 dL_law_871 ?_
  refine g_arg C hX 2 rfl (by omega) hL dL_law_872 dL_law_873 dL_law_874 dL_law_875 dL_law_876 ?_
  refine g_cV (As := [.int (xs (i + 1)), .int (xs (i + 2))]) (rest := [.int _]) C (w_X5_leastLaw l E _ 120 _ _ (_, h2) ok_120 e2) mw_X5_leastLaw (show Cond.methodLink RL 116 yX5_leastLaw ∈ TB from tb_mem 1119 (by decide +kernel) rfl) ok_120 rfl (ce5 E _ rfl) rfl (by decide) rfl (Nat.le_of_ble_eq_true rfl) dL_law_877 rfl ?_
  refine g_eqY (tgt := 1049) C dL_law_880 (by decide) ?_
  exact kk h2 hf
theorem law_c25 (C : CX E X RL cL_law 4 20) (hX : SC E X b L xs) (hL : L ≤ 2048) (hi : i + 3 < L) (hG : Gi k h X0 Y0) (hk : k ≤ 900) (kk : ∀ h9, Fin k h9 → GG l E X h9 1049 (LVX E b i) []) : GG l E X h 885 (LVX E b i) [] := by
  obtain ⟨r, h1, h2, e1, e2, hf⟩ := a_row (xs (i + 1)) h X0 Y0 hG hk
  refine g_aload_n C 2 dL_law_885 rfl rfl ?_
  refine g_arg C hX 1 rfl (by omega) hL dL_law_886 dL_law_887 dL_law_888 dL_law_889 dL_law_890 ?_
  refine g_cV (As := [.int (xs (i + 1))]) (rest := []) C (w_X4_row l E h 0 _ (r, h1) ok_0 e1) mw_X4_row (show Cond.methodLink RL 117 yX4_row ∈ TB from tb_mem 658 (by decide +kernel) rfl) ok_0 rfl (ce4 E h rfl) rfl (by decide) rfl (Nat.le_of_ble_eq_true rfl) dL_law_891 rfl ?_
  refine g_aload_n C 1 dL_law_894 rfl rfl ?_
  refine g_arg C hX 1 rfl (by omega) hL dL_law_895 dL_law_896 dL_law_897 dL_law_898 dL_law_899 ?_
  refine g_cV (As := [.int (xs (i + 1))]) (rest := [.int _]) C (w_X5_row l E _ 120 _ (_, h2) ok_120 e2) mw_X5_row (show Cond.methodLink RL 120 yX5_row ∈ TB from tb_mem 1123 (by decide +kernel) rfl) ok_120 rfl (ce5 E _ rfl) rfl (by decide) rfl (Nat.le_of_ble_eq_true rfl) dL_law_900 rfl ?_
  refine g_eqY (tgt := 1049) C dL_law_903 (by decide) ?_
  exact kk h2 hf
theorem law_c26 (C : CX E X RL cL_law 4 20) (hX : SC E X b L xs) (hL : L ≤ 2048) (hi : i + 3 < L) (hG : Gi k h X0 Y0) (hk : k ≤ 900) (kk : ∀ h9, Fin k h9 → GG l E X h9 1049 (LVX E b i) []) : GG l E X h 908 (LVX E b i) [] := by
  obtain ⟨r, h1, h2, e1, e2, hf⟩ := a_found (xs (i + 1)) h X0 Y0 hG hk
  refine g_aload_n C 2 dL_law_908 rfl rfl ?_
  refine g_arg C hX 1 rfl (by omega) hL dL_law_909 dL_law_910 dL_law_911 dL_law_912 dL_law_913 ?_
  refine g_cV (As := [.int (xs (i + 1))]) (rest := []) C (w_X4_found l E h 0 _ (r, h1) ok_0 e1) mw_X4_found (show Cond.methodLink RL 121 yX4_found ∈ TB from tb_mem 662 (by decide +kernel) rfl) ok_0 rfl (ce4 E h rfl) rfl (by decide) rfl (Nat.le_of_ble_eq_true rfl) dL_law_914 rfl ?_
  refine g_aload_n C 1 dL_law_917 rfl rfl ?_
  refine g_arg C hX 1 rfl (by omega) hL dL_law_918 dL_law_919 dL_law_920 dL_law_921 dL_law_922 ?_
  refine g_cV (As := [.int (xs (i + 1))]) (rest := [.int _]) C (w_X5_found l E _ 120 _ (_, h2) ok_120 e2) mw_X5_found (show Cond.methodLink RL 124 yX5_found ∈ TB from tb_mem 1127 (by decide +kernel) rfl) ok_120 rfl (ce5 E _ rfl) rfl (by decide) rfl (Nat.le_of_ble_eq_true rfl) dL_law_923 rfl ?_
  refine g_eqY (tgt := 1049) C dL_law_926 (by decide) ?_
  exact kk h2 hf
theorem law_c27 (C : CX E X RL cL_law 4 20) (hX : SC E X b L xs) (hL : L ≤ 2048) (hi : i + 3 < L) (hG : Gi k h X0 Y0) (hk : k ≤ 900) (kk : ∀ h9, Fin k h9 → GG l E X h9 1049 (LVX E b i) []) : GG l E X h 931 (LVX E b i) [] := by
  obtain ⟨r, h1, h2, e1, e2, hf⟩ := a_judge (xs (i + 1)) h X0 Y0 hG hk
  refine g_aload_n C 2 dL_law_931 rfl rfl ?_
  refine g_arg C hX 1 rfl (by omega) hL dL_law_932 dL_law_933 dL_law_934 dL_law_935 dL_law_936 ?_
  refine g_cV (As := [.int (xs (i + 1))]) (rest := []) C (w_X4_judge l E h 0 _ (r, h1) ok_0 e1) mw_X4_judge (show Cond.methodLink RL 125 yX4_judge ∈ TB from tb_mem 670 (by decide +kernel) rfl) ok_0 rfl (ce4 E h rfl) rfl (by decide) rfl (Nat.le_of_ble_eq_true rfl) dL_law_937 rfl ?_
  refine g_aload_n C 1 dL_law_940 rfl rfl ?_
  refine g_arg C hX 1 rfl (by omega) hL dL_law_941 dL_law_942 dL_law_943 dL_law_944 dL_law_945 ?_
  refine g_cV (As := [.int (xs (i + 1))]) (rest := [.int _]) C (w_X5_judge l E _ 120 _ (_, h2) ok_120 e2) mw_X5_judge (show Cond.methodLink RL 128 yX5_judge ∈ TB from tb_mem 1135 (by decide +kernel) rfl) ok_120 rfl (ce5 E _ rfl) rfl (by decide) rfl (Nat.le_of_ble_eq_true rfl) dL_law_946 rfl ?_
  refine g_eqY (tgt := 1049) C dL_law_949 (by decide) ?_
  exact kk h2 hf
theorem law_c28 (C : CX E X RL cL_law 4 20) (hX : SC E X b L xs) (hL : L ≤ 2048) (hi : i + 3 < L) (hG : Gi k h X0 Y0) (hk : k ≤ 900) (kk : ∀ h9, Fin k h9 → GG l E X h9 1049 (LVX E b i) []) : GG l E X h 954 (LVX E b i) [] := by
  obtain ⟨r, h1, h2, e1, e2, hf⟩ := a_told h X0 Y0 hG hk
  refine g_aload_n C 2 dL_law_954 rfl rfl ?_
  refine g_cV (As := []) (rest := []) C (w_X4_told l E h 0  (r, h1) ok_0 e1) mw_X4_told (show Cond.methodLink RL 129 yX4_told ∈ TB from tb_mem 674 (by decide +kernel) rfl) ok_0 rfl (ce4 E h rfl) rfl (by decide) rfl (Nat.le_of_ble_eq_true rfl) dL_law_955 rfl ?_
  refine g_aload_n C 1 dL_law_958 rfl rfl ?_
  refine g_cV (As := []) (rest := [.int _]) C (w_X5_told l E _ 120  (_, h2) ok_120 e2) mw_X5_told (show Cond.methodLink RL 132 yX5_told ∈ TB from tb_mem 1139 (by decide +kernel) rfl) ok_120 rfl (ce5 E _ rfl) rfl (by decide) rfl (Nat.le_of_ble_eq_true rfl) dL_law_959 rfl ?_
  refine g_eqY (tgt := 1049) C dL_law_962 (by decide) ?_
  exact kk h2 hf
theorem law_c29 (C : CX E X RL cL_law 4 20) (hX : SC E X b L xs) (hL : L ≤ 2048) (hi : i + 3 < L) (hG : Gi k h X0 Y0) (hk : k ≤ 900) (kk : ∀ h9, Fin k h9 → GG l E X h9 1049 (LVX E b i) []) : GG l E X h 967 (LVX E b i) [] := by
  obtain ⟨r, h1, h2, e1, e2, hf⟩ := a_seeds (xs (i + 1)) (xs (i + 2)) h X0 Y0 hG hk
  refine g_aload_n C 2 dL_law_967 rfl rfl ?_
  refine g_arg C hX 1 rfl (by omega) hL dL_law_968 dL_law_969 dL_law_970 dL_law_971 dL_law_972 ?_
  refine g_arg C hX 2 rfl (by omega) hL dL_law_973 dL_law_974 dL_law_975 dL_law_976 dL_law_977 ?_
  refine g_cV (As := [.int (xs (i + 1)), .int (xs (i + 2))]) (rest := []) C (w_X4_seeds l E h 0 _ _ (r, h1) ok_0 e1) mw_X4_seeds (show Cond.methodLink RL 133 yX4_seeds ∈ TB from tb_mem 682 (by decide +kernel) rfl) ok_0 rfl (ce4 E h rfl) rfl (by decide) rfl (Nat.le_of_ble_eq_true rfl) dL_law_978 rfl ?_
  refine g_aload_n C 1 dL_law_981 rfl rfl ?_
  refine g_arg C hX 1 rfl (by omega) hL dL_law_982 dL_law_983 dL_law_984 dL_law_985 dL_law_986 ?_
  refine g_arg C hX 2 rfl (by omega) hL dL_law_987 dL_law_988 dL_law_989 dL_law_990 dL_law_991 ?_
  refine g_cV (As := [.int (xs (i + 1)), .int (xs (i + 2))]) (rest := [.int _]) C (w_X5_seeds l E _ 120 _ _ (_, h2) ok_120 e2) mw_X5_seeds (show Cond.methodLink RL 136 yX5_seeds ∈ TB from tb_mem 1143 (by decide +kernel) rfl) ok_120 rfl (ce5 E _ rfl) rfl (by decide) rfl (Nat.le_of_ble_eq_true rfl) dL_law_992 rfl ?_
  refine g_eqY (tgt := 1049) C dL_law_995 (by decide) ?_
  exact kk h2 hf
theorem law_c30 (C : CX E X RL cL_law 4 20) (hX : SC E X b L xs) (hL : L ≤ 2048) (hi : i + 3 < L) (hG : Gi k h X0 Y0) (hk : k ≤ 900) (kk : ∀ h9, Fin k h9 → GG l E X h9 1049 (LVX E b i) []) : GG l E X h 1000 (LVX E b i) [] := by
  obtain ⟨r, h1, h2, e1, e2, hf⟩ := a_image h X0 Y0 hG hk
  refine g_aload_n C 2 dL_law_1000 rfl rfl ?_
  refine g_cV (As := []) (rest := []) C (w_X4_image l E h 0  (r, h1) ok_0 e1) mw_X4_image (show Cond.methodLink RL 137 yX4_image ∈ TB from tb_mem 699 (by decide +kernel) rfl) ok_0 rfl (ce4 E h rfl) rfl (by decide) rfl (Nat.le_of_ble_eq_true rfl) dL_law_1001 rfl ?_
  refine g_aload_n C 1 dL_law_1004 rfl rfl ?_
  refine g_cV (As := []) (rest := [.int _]) C (w_X5_image l E _ 120  (_, h2) ok_120 e2) mw_X5_image (show Cond.methodLink RL 140 yX5_image ∈ TB from tb_mem 1154 (by decide +kernel) rfl) ok_120 rfl (ce5 E _ rfl) rfl (by decide) rfl (Nat.le_of_ble_eq_true rfl) dL_law_1005 rfl ?_
  refine g_eqY (tgt := 1049) C dL_law_1008 (by decide) ?_
  exact kk h2 hf
theorem law_c31 (C : CX E X RL cL_law 4 20) (hX : SC E X b L xs) (hL : L ≤ 2048) (hi : i + 3 < L) (hG : Gi k h X0 Y0) (hk : k ≤ 900) (kk : ∀ h9, Fin k h9 → GG l E X h9 1049 (LVX E b i) []) : GG l E X h 1013 (LVX E b i) [] := by
  obtain ⟨r, h1, h2, e1, e2, hf⟩ := a_restore h X0 Y0 hG hk
  refine g_aload_n C 2 dL_law_1013 rfl rfl ?_
  refine g_cV (As := []) (rest := []) C (w_X4_restore l E h 0  (r, h1) ok_0 e1) mw_X4_restore (show Cond.methodLink RL 141 yX4_restore ∈ TB from tb_mem 703 (by decide +kernel) rfl) ok_0 rfl (ce4 E h rfl) rfl (by decide) rfl (Nat.le_of_ble_eq_true rfl) dL_law_1014 rfl ?_
  refine g_aload_n C 1 dL_law_1017 rfl rfl ?_
  refine g_cV (As := []) (rest := [.int _]) C (w_X5_restore l E _ 120  (_, h2) ok_120 e2) mw_X5_restore (show Cond.methodLink RL 144 yX5_restore ∈ TB from tb_mem 1166 (by decide +kernel) rfl) ok_120 rfl (ce5 E _ rfl) rfl (by decide) rfl (Nat.le_of_ble_eq_true rfl) dL_law_1018 rfl ?_
  refine g_eqY (tgt := 1049) C dL_law_1021 (by decide) ?_
  exact kk h2 hf
theorem law_c32 (C : CX E X RL cL_law 4 20) (hX : SC E X b L xs) (hL : L ≤ 2048) (hi : i + 3 < L) (hG : Gi k h X0 Y0) (hk : k ≤ 900) (kk : ∀ h9, Fin k h9 → GG l E X h9 1049 (LVX E b i) []) : GG l E X h 1026 (LVX E b i) [] := by
  obtain ⟨r, h1, h2, e1, e2, hf⟩ := a_count (xs (i + 1)) h X0 Y0 hG hk
  obtain ⟨v, ev, e3⟩ := bnd e1
  cases e3
  refine g_aload_n C 2 dL_law_1026 rfl rfl ?_
  refine g_arg C hX 1 rfl (by omega) hL dL_law_1027 dL_law_1028 dL_law_1029 dL_law_1030 dL_law_1031 ?_
  refine g_cV (As := [.int (xs (i + 1))]) (rest := []) C (w_X4_count l E h 0 _ _ ok_0 ev) mw_X4_count (show Cond.methodLink RL 145 yX4_count ∈ TB from tb_mem 707 (by decide +kernel) rfl) ok_0 rfl (ce4 E h rfl) rfl (by decide) rfl (Nat.le_of_ble_eq_true rfl) dL_law_1032 rfl ?_
  refine g_aload_n C 1 dL_law_1035 rfl rfl ?_
  refine g_arg C hX 1 rfl (by omega) hL dL_law_1036 dL_law_1037 dL_law_1038 dL_law_1039 dL_law_1040 ?_
  refine g_cV (As := [.int (xs (i + 1))]) (rest := [.int _]) C (w_X5_count l E _ 120 _ (_, h2) ok_120 e2) mw_X5_count (show Cond.methodLink RL 148 yX5_count ∈ TB from tb_mem 1170 (by decide +kernel) rfl) ok_120 rfl (ce5 E _ rfl) rfl (by decide) rfl (Nat.le_of_ble_eq_true rfl) dL_law_1041 rfl ?_
  refine g_eqY (tgt := 1049) C dL_law_1044 (by decide) ?_
  exact kk h2 hf
def RTL (E : Ep) (X : Fx) : Prop := match X with
  | (_, _, R, s, _, args, below, meth, _, (cells, slots), Q, _) => R = room_1 ∧ (∃ b : Nat, args = #[Value.ref b]) ∧ Q = lw_Z below args s ∧ meth.sig.returnType = ret ∧ meth.locks = false ∧ cells ≤ 600000 ∧ slots ≤ 7302250 ∧ ∀ q, AD E q → s.heap.size ≤ q
theorem law_end (C : CX E X RL cL_law 4 20) (hR : RTL E X) : GG l E X h 1055 lv [] := by
  refine g_iconst (v := 1) C dL_law_1055 rfl ?_
  obtain ⟨p, e, R, s, m, args, below, meth, c, ⟨cells, slots⟩, Q, nL'⟩ := X
  obtain ⟨rfl, hx, hbc, hml, hown, hts, hSt, hc1, hc2, hf, hlo⟩ := C
  obtain ⟨rfl, ⟨b, rfl⟩, rfl, hr, hlk, hce, hsl, hfr⟩ := hR
  exact fun H locs ls hP hS hl => va_forget (fun q hq => hfr _ (hS.2.2 q hq)) (W.widen hce hsl (lw_ret hx hbc hr hlk dL_law_1056))
theorem law_sw (C : CX E X RL cL_law 4 20) (hX : SC E X b L xs) (hL : L ≤ 2048) (hi : i + 3 < L) (hG : Gi k h X0 Y0) (hk : k ≤ 900) (x : Int32) (kk : ∀ h', Fin k h' → GG l E X h' 1049 (LVX E b i) []) : GG l E X h 32 (LVX E b i) [.int x] := by
  have hout : x.toInt < 0 ∨ 32 < x.toInt → GG l E X h 32 (LVX E b i) [.int x] := fun q => g_tabOut (tgt := 1049) C dL_law_32 q (by decide) (kk h ⟨X0, Y0, hG.mono (Nat.le_succ k) (by omega)⟩)
  by_cases h0 : x < 0
  · exact hout (Or.inl (Int32.lt_iff_toInt_lt.mp h0))
  · obtain ⟨j, hj, rfl⟩ := nI_of h0
    rcases Nat.lt_or_ge j 33 with q | q
    · rcases (show j = 0 ∨ j = 1 ∨ j = 2 ∨ j = 3 ∨ j = 4 ∨ j = 5 ∨ j = 6 ∨ j = 7 ∨ j = 8 ∨ j = 9 ∨ j = 10 ∨ j = 11 ∨ j = 12 ∨ j = 13 ∨ j = 14 ∨ j = 15 ∨ j = 16 ∨ j = 17 ∨ j = 18 ∨ j = 19 ∨ j = 20 ∨ j = 21 ∨ j = 22 ∨ j = 23 ∨ j = 24 ∨ j = 25 ∨ j = 26 ∨ j = 27 ∨ j = 28 ∨ j = 29 ∨ j = 30 ∨ j = 31 ∨ j = 32 by omega) with rfl | rfl | rfl | rfl | rfl | rfl | rfl | rfl | rfl | rfl | rfl | rfl | rfl | rfl | rfl | rfl | rfl | rfl | rfl | rfl | rfl | rfl | rfl | rfl | rfl | rfl | rfl | rfl | rfl | rfl | rfl | rfl | rfl
      · exact g_tabIn (tgt := 180) (v := nI 0) C dL_law_32 rfl (by decide) (by decide) rfl (by decide) (law_c0 C hX hL hi hG hk kk)
      · exact g_tabIn (tgt := 203) (v := nI 1) C dL_law_32 rfl (by decide) (by decide) rfl (by decide) (law_c1 C hX hL hi hG hk kk)
      · exact g_tabIn (tgt := 216) (v := nI 2) C dL_law_32 rfl (by decide) (by decide) rfl (by decide) (law_c2 C hX hL hi hG hk kk)
      · exact g_tabIn (tgt := 249) (v := nI 3) C dL_law_32 rfl (by decide) (by decide) rfl (by decide) (law_c3 C hX hL hi hG hk kk)
      · exact g_tabIn (tgt := 292) (v := nI 4) C dL_law_32 rfl (by decide) (by decide) rfl (by decide) (law_c4 C hX hL hi hG hk kk)
      · exact g_tabIn (tgt := 325) (v := nI 5) C dL_law_32 rfl (by decide) (by decide) rfl (by decide) (law_c5 C hX hL hi hG hk kk)
      · exact g_tabIn (tgt := 368) (v := nI 6) C dL_law_32 rfl (by decide) (by decide) rfl (by decide) (law_c6 C hX hL hi hG hk kk)
      · exact g_tabIn (tgt := 381) (v := nI 7) C dL_law_32 rfl (by decide) (by decide) rfl (by decide) (law_c7 C hX hL hi hG hk kk)
      · exact g_tabIn (tgt := 394) (v := nI 8) C dL_law_32 rfl (by decide) (by decide) rfl (by decide) (law_c8 C hX hL hi hG hk kk)
      · exact g_tabIn (tgt := 417) (v := nI 9) C dL_law_32 rfl (by decide) (by decide) rfl (by decide) (law_c9 C hX hL hi hG hk kk)
      · exact g_tabIn (tgt := 450) (v := nI 10) C dL_law_32 rfl (by decide) (by decide) rfl (by decide) (law_c10 C hX hL hi hG hk kk)
      · exact g_tabIn (tgt := 473) (v := nI 11) C dL_law_32 rfl (by decide) (by decide) rfl (by decide) (law_c11 C hX hL hi hG hk kk)
      · exact g_tabIn (tgt := 506) (v := nI 12) C dL_law_32 rfl (by decide) (by decide) rfl (by decide) (law_c12 C hX hL hi hG hk kk)
      · exact g_tabIn (tgt := 529) (v := nI 13) C dL_law_32 rfl (by decide) (by decide) rfl (by decide) (law_c13 C hX hL hi hG hk kk)
      · exact g_tabIn (tgt := 552) (v := nI 14) C dL_law_32 rfl (by decide) (by decide) rfl (by decide) (law_c14 C hX hL hi hG hk kk)
      · exact g_tabIn (tgt := 575) (v := nI 15) C dL_law_32 rfl (by decide) (by decide) rfl (by decide) (law_c15 C hX hL hi hG hk kk)
      · exact g_tabIn (tgt := 588) (v := nI 16) C dL_law_32 rfl (by decide) (by decide) rfl (by decide) (law_c16 C hX hL hi hG hk kk)
      · exact g_tabIn (tgt := 621) (v := nI 17) C dL_law_32 rfl (by decide) (by decide) rfl (by decide) (law_c17 C hX hL hi hG hk kk)
      · exact g_tabIn (tgt := 664) (v := nI 18) C dL_law_32 rfl (by decide) (by decide) rfl (by decide) (law_c18 C hX hL hi hG hk kk)
      · exact g_tabIn (tgt := 697) (v := nI 19) C dL_law_32 rfl (by decide) (by decide) rfl (by decide) (law_c19 C hX hL hi hG hk kk)
      · exact g_tabIn (tgt := 740) (v := nI 20) C dL_law_32 rfl (by decide) (by decide) rfl (by decide) (law_c20 C hX hL hi hG hk kk)
      · exact g_tabIn (tgt := 753) (v := nI 21) C dL_law_32 rfl (by decide) (by decide) rfl (by decide) (law_c21 C hX hL hi hG hk kk)
      · exact g_tabIn (tgt := 766) (v := nI 22) C dL_law_32 rfl (by decide) (by decide) rfl (by decide) (law_c22 C hX hL hi hG hk kk)
      · exact g_tabIn (tgt := 809) (v := nI 23) C dL_law_32 rfl (by decide) (by decide) rfl (by decide) (law_c23 C hX hL hi hG hk kk)
      · exact g_tabIn (tgt := 852) (v := nI 24) C dL_law_32 rfl (by decide) (by decide) rfl (by decide) (law_c24 C hX hL hi hG hk kk)
      · exact g_tabIn (tgt := 885) (v := nI 25) C dL_law_32 rfl (by decide) (by decide) rfl (by decide) (law_c25 C hX hL hi hG hk kk)
      · exact g_tabIn (tgt := 908) (v := nI 26) C dL_law_32 rfl (by decide) (by decide) rfl (by decide) (law_c26 C hX hL hi hG hk kk)
      · exact g_tabIn (tgt := 931) (v := nI 27) C dL_law_32 rfl (by decide) (by decide) rfl (by decide) (law_c27 C hX hL hi hG hk kk)
      · exact g_tabIn (tgt := 954) (v := nI 28) C dL_law_32 rfl (by decide) (by decide) rfl (by decide) (law_c28 C hX hL hi hG hk kk)
      · exact g_tabIn (tgt := 967) (v := nI 29) C dL_law_32 rfl (by decide) (by decide) rfl (by decide) (law_c29 C hX hL hi hG hk kk)
      · exact g_tabIn (tgt := 1000) (v := nI 30) C dL_law_32 rfl (by decide) (by decide) rfl (by decide) (law_c30 C hX hL hi hG hk kk)
      · exact g_tabIn (tgt := 1013) (v := nI 31) C dL_law_32 rfl (by decide) (by decide) rfl (by decide) (law_c31 C hX hL hi hG hk kk)
      · exact g_tabIn (tgt := 1026) (v := nI 32) C dL_law_32 rfl (by decide) (by decide) rfl (by decide) (law_c32 C hX hL hi hG hk kk)
    · exact hout (Or.inr (by rw [nI_toInt hj]; omega))
theorem law_loop (C : CX E X RL cL_law 4 20) (hR : RTL E X) (hX : SC E X b L xs) (hL : L ≤ 2048) : ∀ (n i k : Nat) (h : Hp) (X0 Y0 : St), Gi k h X0 Y0 → 4 * k ≤ i → i ≤ 2052 → L ≤ i + n → GG l E X h 18 (LVX E b i) [] := by
  intro n
  induction n with
  | zero =>
    intro i k h X0 Y0 hG hk hi hn
    refine g_iload_n C 0 dL_law_18 rfl rfl ?_
    refine g_aload_n C 3 dL_law_19 rfl rfl ?_
    refine g_slen C hX dL_law_20 ?_
    refine g_iconst C dL_law_21 rfl ?_
    refine g_isub C dL_law_22 ?_
    refine g_gt (tgt := 1055) C dL_law_23 (by decide) (fun _ => law_end C hR) (fun q => ?_)
    exact absurd (show nI L - nI 4 < nI i from Int32.lt_iff_toInt_lt.mpr (by rw [pk_sub_toInt (by omega) (by omega), nI_toInt (by omega)]; omega)) q
  | succ n ih =>
    intro i k h X0 Y0 hG hk hi hn
    refine g_iload_n C 0 dL_law_18 rfl rfl ?_
    refine g_aload_n C 3 dL_law_19 rfl rfl ?_
    refine g_slen C hX dL_law_20 ?_
    refine g_iconst C dL_law_21 rfl ?_
    refine g_isub C dL_law_22 ?_
    refine g_gt (tgt := 1055) C dL_law_23 (by decide) (fun _ => law_end C hR) (fun q => ?_)
    have q1 : ¬ nI L - nI 4 < nI i := q
    have q2 : i + 3 < L := by
      rcases Nat.lt_or_ge (i + 3) L with z | z
      · exact z
      · exact absurd (Int32.lt_iff_toInt_lt.mpr (by rw [pk_sub_toInt (by omega) (by omega), nI_toInt (by omega)]; omega)) q1
    refine g_aload_n C 3 dL_law_26 rfl rfl ?_
    refine g_iload_n C 0 dL_law_27 rfl rfl ?_
    refine g_sld C hX rfl (by omega) hL dL_law_28 ?_
    refine g_bipush (v := 63) C dL_law_29 rfl ?_
    refine g_iand C dL_law_31 ?_
    refine law_sw C hX hL q2 hG (by omega) _ (fun h' hF => ?_)
    obtain ⟨X1, Y1, hG1⟩ := hF
    refine g_iinc (j := 0) (v := nI (i + 4)) (lv' := LVX E b (i + 4)) C dL_law_1049 rfl (nI_add i 4) (by decide) rfl ?_
    refine g_goto (tgt := 18) C dL_law_1052 (by decide) ?_
    exact ih (i + 4) (k + 1) h' X1 Y1 hG1 (by omega) (by omega) (by omega)
end LW
