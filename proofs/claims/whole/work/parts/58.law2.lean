/-! a lemma a case of the law's switch -/
section LAWC
variable {p : Program} {l : Launch} {e : Env} {s : State} {m : MethodId} {below : List Frame} {meth : Method} {c : Code} {b Ln : Nat} {xs : Nat → Int32} {g : fw_G} {I : fw_I} {P : fw_P} {w i B : Nat}
abbrev LL (b : Nat) (g : fw_G) (i : Nat) : List (Option Value) := [some (.ref b), some (.ref (g.1 + 0)), some (.ref (g.1 + 688)), some (.int (nI i)), none, none, none, none]
set_option maxHeartbeats 4000000 in
set_option maxRecDepth 100000 in
theorem lk_snake (C : LC p s m meth c b Ln xs g) (hi : i + 5 ≤ Ln) (hw : w ≤ 7302250) (hB : B + 9 < 1000000) (hs : Sm I P B) (hk : ∀ I2 P2, Sm I2 P2 (B + 9) → VL p l e s m below meth c b g T0 I2 P2 w 834 (LL b g i) []) : VL p l e s m below meth c b g T0 I P w 144 (LL b g i) [] := by
  obtain ⟨f, M, h7, h8⟩ := pr_snake (l := l) (g := g) hs hB (xs (i + 1)) (xs (i + 2))
  refine L_aload_n C (i := 1) rfl rfl dL_law_144 rfl ?_
  refine L_arg C (i := i) (n := 1) (by decide) rfl rfl (by omega) dL_law_145 dL_law_146 dL_law_147 dL_law_148 dL_law_149 rfl ?_
  refine L_arg C (i := i) (n := 2) (by decide) rfl rfl (by omega) dL_law_150 dL_law_151 dL_law_152 dL_law_153 dL_law_154 rfl ?_
  refine L_call C (n := 2) h7 o_X7_snake m_L_13 ⟨by decide, by decide⟩ at_0 rfl rfl (by first | exact Nat.le_of_ble_eq_true rfl | simp [Value.category]) (Nat.le_of_ble_eq_true rfl) hw rfl dL_law_155 rfl ?_
  rintro _ I1 P1 ⟨r1, rfl, rfl, hM⟩
  refine L_aload_n C (i := 2) rfl rfl dL_law_158 rfl ?_
  refine L_arg C (i := i) (n := 1) (by decide) rfl rfl (by omega) dL_law_159 dL_law_160 dL_law_161 dL_law_162 dL_law_163 rfl ?_
  refine L_arg C (i := i) (n := 2) (by decide) rfl rfl (by omega) dL_law_164 dL_law_165 dL_law_166 dL_law_167 dL_law_168 rfl ?_
  refine L_call C (n := 2) (h8 I1 P1 hM) o_X8_snake m_L_17 ⟨by decide, by decide⟩ at_688 rfl rfl (by first | exact Nat.le_of_ble_eq_true rfl | simp [Value.category]) (Nat.le_of_ble_eq_true rfl) hw rfl dL_law_169 rfl ?_
  rintro _ I2 P2 ⟨r2, rfl, rfl, hs2⟩
  exact L_icmp_eq C (tgt := 834) dL_law_172 (by decide) rfl (hk I2 P2 hs2)
set_option maxHeartbeats 4000000 in
set_option maxRecDepth 100000 in
theorem lk_charm (C : LC p s m meth c b Ln xs g) (hi : i + 5 ≤ Ln) (hw : w ≤ 7302250) (hB : B + 9 < 1000000) (hs : Sm I P B) (hk : ∀ I2 P2, Sm I2 P2 (B + 9) → VL p l e s m below meth c b g T0 I2 P2 w 834 (LL b g i) []) : VL p l e s m below meth c b g T0 I P w 177 (LL b g i) [] := by
  obtain ⟨f, M, h7, h8⟩ := pr_charm (l := l) (g := g) hs hB (xs (i + 1)) (xs (i + 2))
  refine L_aload_n C (i := 1) rfl rfl dL_law_177 rfl ?_
  refine L_arg C (i := i) (n := 1) (by decide) rfl rfl (by omega) dL_law_178 dL_law_179 dL_law_180 dL_law_181 dL_law_182 rfl ?_
  refine L_arg C (i := i) (n := 2) (by decide) rfl rfl (by omega) dL_law_183 dL_law_184 dL_law_185 dL_law_186 dL_law_187 rfl ?_
  refine L_call C (n := 2) h7 o_X7_charm m_L_18 ⟨by decide, by decide⟩ at_0 rfl rfl (by first | exact Nat.le_of_ble_eq_true rfl | simp [Value.category]) (Nat.le_of_ble_eq_true rfl) hw rfl dL_law_188 rfl ?_
  rintro _ I1 P1 ⟨r1, rfl, rfl, hM⟩
  refine L_aload_n C (i := 2) rfl rfl dL_law_191 rfl ?_
  refine L_arg C (i := i) (n := 1) (by decide) rfl rfl (by omega) dL_law_192 dL_law_193 dL_law_194 dL_law_195 dL_law_196 rfl ?_
  refine L_arg C (i := i) (n := 2) (by decide) rfl rfl (by omega) dL_law_197 dL_law_198 dL_law_199 dL_law_200 dL_law_201 rfl ?_
  refine L_call C (n := 2) (h8 I1 P1 hM) o_X8_charm m_L_21 ⟨by decide, by decide⟩ at_688 rfl rfl (by first | exact Nat.le_of_ble_eq_true rfl | simp [Value.category]) (Nat.le_of_ble_eq_true rfl) hw rfl dL_law_202 rfl ?_
  rintro _ I2 P2 ⟨r2, rfl, rfl, hs2⟩
  exact L_icmp_eq C (tgt := 834) dL_law_205 (by decide) rfl (hk I2 P2 hs2)
set_option maxHeartbeats 4000000 in
set_option maxRecDepth 100000 in
theorem lk_turn (C : LC p s m meth c b Ln xs g) (hi : i + 5 ≤ Ln) (hw : w ≤ 7302250) (hB : B + 9 < 1000000) (hs : Sm I P B) (hk : ∀ I2 P2, Sm I2 P2 (B + 9) → VL p l e s m below meth c b g T0 I2 P2 w 834 (LL b g i) []) : VL p l e s m below meth c b g T0 I P w 210 (LL b g i) [] := by
  obtain ⟨f, M, h7, h8⟩ := pr_turn (l := l) (g := g) hs hB (xs (i + 1))
  refine L_aload_n C (i := 1) rfl rfl dL_law_210 rfl ?_
  refine L_arg C (i := i) (n := 1) (by decide) rfl rfl (by omega) dL_law_211 dL_law_212 dL_law_213 dL_law_214 dL_law_215 rfl ?_
  refine L_call C (n := 1) h7 o_X7_turn m_L_22 ⟨by decide, by decide⟩ at_0 rfl rfl (by first | exact Nat.le_of_ble_eq_true rfl | simp [Value.category]) (Nat.le_of_ble_eq_true rfl) hw rfl dL_law_216 rfl ?_
  rintro _ I1 P1 ⟨r1, rfl, rfl, hM⟩
  refine L_aload_n C (i := 2) rfl rfl dL_law_219 rfl ?_
  refine L_arg C (i := i) (n := 1) (by decide) rfl rfl (by omega) dL_law_220 dL_law_221 dL_law_222 dL_law_223 dL_law_224 rfl ?_
  refine L_call C (n := 1) (h8 I1 P1 hM) o_X8_turn m_L_26 ⟨by decide, by decide⟩ at_688 rfl rfl (by first | exact Nat.le_of_ble_eq_true rfl | simp [Value.category]) (Nat.le_of_ble_eq_true rfl) hw rfl dL_law_225 rfl ?_
  rintro _ I2 P2 ⟨r2, rfl, rfl, hs2⟩
  exact L_icmp_eq C (tgt := 834) dL_law_228 (by decide) rfl (hk I2 P2 hs2)
set_option maxHeartbeats 4000000 in
set_option maxRecDepth 100000 in
theorem lk_play (C : LC p s m meth c b Ln xs g) (hi : i + 5 ≤ Ln) (hw : w ≤ 7302250) (hB : B + 9 < 1000000) (hs : Sm I P B) (hk : ∀ I2 P2, Sm I2 P2 (B + 9) → VL p l e s m below meth c b g T0 I2 P2 w 834 (LL b g i) []) : VL p l e s m below meth c b g T0 I P w 233 (LL b g i) [] := by
  obtain ⟨f, M, h7, h8⟩ := pr_play (l := l) (g := g) hs hB (xs (i + 1)) (xs (i + 2))
  refine L_aload_n C (i := 1) rfl rfl dL_law_233 rfl ?_
  refine L_arg C (i := i) (n := 1) (by decide) rfl rfl (by omega) dL_law_234 dL_law_235 dL_law_236 dL_law_237 dL_law_238 rfl ?_
  refine L_arg C (i := i) (n := 2) (by decide) rfl rfl (by omega) dL_law_239 dL_law_240 dL_law_241 dL_law_242 dL_law_243 rfl ?_
  refine L_call C (n := 2) h7 o_X7_play m_L_27 ⟨by decide, by decide⟩ at_0 rfl rfl (by first | exact Nat.le_of_ble_eq_true rfl | simp [Value.category]) (Nat.le_of_ble_eq_true rfl) hw rfl dL_law_244 rfl ?_
  rintro _ I1 P1 ⟨r1, rfl, rfl, hM⟩
  refine L_aload_n C (i := 2) rfl rfl dL_law_247 rfl ?_
  refine L_arg C (i := i) (n := 1) (by decide) rfl rfl (by omega) dL_law_248 dL_law_249 dL_law_250 dL_law_251 dL_law_252 rfl ?_
  refine L_arg C (i := i) (n := 2) (by decide) rfl rfl (by omega) dL_law_253 dL_law_254 dL_law_255 dL_law_256 dL_law_257 rfl ?_
  refine L_call C (n := 2) (h8 I1 P1 hM) o_X8_play m_L_30 ⟨by decide, by decide⟩ at_688 rfl rfl (by first | exact Nat.le_of_ble_eq_true rfl | simp [Value.category]) (Nat.le_of_ble_eq_true rfl) hw rfl dL_law_258 rfl ?_
  rintro _ I2 P2 ⟨r2, rfl, rfl, hs2⟩
  exact L_icmp_eq C (tgt := 834) dL_law_261 (by decide) rfl (hk I2 P2 hs2)
set_option maxHeartbeats 4000000 in
set_option maxRecDepth 100000 in
theorem lk_sell (C : LC p s m meth c b Ln xs g) (hi : i + 5 ≤ Ln) (hw : w ≤ 7302250) (hB : B + 9 < 1000000) (hs : Sm I P B) (hk : ∀ I2 P2, Sm I2 P2 (B + 9) → VL p l e s m below meth c b g T0 I2 P2 w 834 (LL b g i) []) : VL p l e s m below meth c b g T0 I P w 266 (LL b g i) [] := by
  obtain ⟨f, M, h7, h8⟩ := pr_sell (l := l) (g := g) hs hB (xs (i + 1)) (xs (i + 2)) (xs (i + 3)) (xs (i + 4))
  refine L_aload_n C (i := 1) rfl rfl dL_law_266 rfl ?_
  refine L_arg C (i := i) (n := 1) (by decide) rfl rfl (by omega) dL_law_267 dL_law_268 dL_law_269 dL_law_270 dL_law_271 rfl ?_
  refine L_arg C (i := i) (n := 2) (by decide) rfl rfl (by omega) dL_law_272 dL_law_273 dL_law_274 dL_law_275 dL_law_276 rfl ?_
  refine L_arg C (i := i) (n := 3) (by decide) rfl rfl (by omega) dL_law_277 dL_law_278 dL_law_279 dL_law_280 dL_law_281 rfl ?_
  refine L_arg C (i := i) (n := 4) (by decide) rfl rfl (by omega) dL_law_282 dL_law_283 dL_law_284 dL_law_285 dL_law_286 rfl ?_
  refine L_call C (n := 4) h7 o_X7_sell m_L_31 ⟨by decide, by decide⟩ at_0 rfl rfl (by first | exact Nat.le_of_ble_eq_true rfl | simp [Value.category]) (Nat.le_of_ble_eq_true rfl) hw rfl dL_law_287 rfl ?_
  rintro _ I1 P1 ⟨r1, rfl, rfl, hM⟩
  refine L_aload_n C (i := 2) rfl rfl dL_law_290 rfl ?_
  refine L_arg C (i := i) (n := 1) (by decide) rfl rfl (by omega) dL_law_291 dL_law_292 dL_law_293 dL_law_294 dL_law_295 rfl ?_
  refine L_arg C (i := i) (n := 2) (by decide) rfl rfl (by omega) dL_law_296 dL_law_297 dL_law_298 dL_law_299 dL_law_300 rfl ?_
  refine L_arg C (i := i) (n := 3) (by decide) rfl rfl (by omega) dL_law_301 dL_law_302 dL_law_303 dL_law_304 dL_law_305 rfl ?_
  refine L_arg C (i := i) (n := 4) (by decide) rfl rfl (by omega) dL_law_306 dL_law_307 dL_law_308 dL_law_309 dL_law_310 rfl ?_
  refine L_call C (n := 4) (h8 I1 P1 hM) o_X8_sell m_L_35 ⟨by decide, by decide⟩ at_688 rfl rfl (by first | exact Nat.le_of_ble_eq_true rfl | simp [Value.category]) (Nat.le_of_ble_eq_true rfl) hw rfl dL_law_311 rfl ?_
  rintro _ I2 P2 ⟨r2, rfl, rfl, hs2⟩
  exact L_icmp_eq C (tgt := 834) dL_law_314 (by decide) rfl (hk I2 P2 hs2)
set_option maxHeartbeats 4000000 in
set_option maxRecDepth 100000 in
theorem lk_set (C : LC p s m meth c b Ln xs g) (hi : i + 5 ≤ Ln) (hw : w ≤ 7302250) (hB : B + 9 < 1000000) (hs : Sm I P B) (hk : ∀ I2 P2, Sm I2 P2 (B + 9) → VL p l e s m below meth c b g T0 I2 P2 w 834 (LL b g i) []) : VL p l e s m below meth c b g T0 I P w 319 (LL b g i) [] := by
  obtain ⟨f, M, h7, h8⟩ := pr_set (l := l) (g := g) hs hB (xs (i + 1)) (xs (i + 2))
  refine L_aload_n C (i := 1) rfl rfl dL_law_319 rfl ?_
  refine L_arg C (i := i) (n := 1) (by decide) rfl rfl (by omega) dL_law_320 dL_law_321 dL_law_322 dL_law_323 dL_law_324 rfl ?_
  refine L_arg C (i := i) (n := 2) (by decide) rfl rfl (by omega) dL_law_325 dL_law_326 dL_law_327 dL_law_328 dL_law_329 rfl ?_
  refine L_call C (n := 2) h7 o_X7_set m_L_36 ⟨by decide, by decide⟩ at_0 rfl rfl (by first | exact Nat.le_of_ble_eq_true rfl | simp [Value.category]) (Nat.le_of_ble_eq_true rfl) hw rfl dL_law_330 rfl ?_
  rintro _ I1 P1 ⟨r1, rfl, rfl, hM⟩
  refine L_aload_n C (i := 2) rfl rfl dL_law_333 rfl ?_
  refine L_arg C (i := i) (n := 1) (by decide) rfl rfl (by omega) dL_law_334 dL_law_335 dL_law_336 dL_law_337 dL_law_338 rfl ?_
  refine L_arg C (i := i) (n := 2) (by decide) rfl rfl (by omega) dL_law_339 dL_law_340 dL_law_341 dL_law_342 dL_law_343 rfl ?_
  refine L_call C (n := 2) (h8 I1 P1 hM) o_X8_set m_L_39 ⟨by decide, by decide⟩ at_688 rfl rfl (by first | exact Nat.le_of_ble_eq_true rfl | simp [Value.category]) (Nat.le_of_ble_eq_true rfl) hw rfl dL_law_344 rfl ?_
  rintro _ I2 P2 ⟨r2, rfl, rfl, hs2⟩
  exact L_icmp_eq C (tgt := 834) dL_law_347 (by decide) rfl (hk I2 P2 hs2)
set_option maxHeartbeats 4000000 in
set_option maxRecDepth 100000 in
theorem lk_append (C : LC p s m meth c b Ln xs g) (hi : i + 5 ≤ Ln) (hw : w ≤ 7302250) (hB : B + 9 < 1000000) (hs : Sm I P B) (hk : ∀ I2 P2, Sm I2 P2 (B + 9) → VL p l e s m below meth c b g T0 I2 P2 w 834 (LL b g i) []) : VL p l e s m below meth c b g T0 I P w 352 (LL b g i) [] := by
  obtain ⟨f, M, h7, h8⟩ := pr_append (l := l) (g := g) hs hB (xs (i + 1))
  refine L_aload_n C (i := 1) rfl rfl dL_law_352 rfl ?_
  refine L_arg C (i := i) (n := 1) (by decide) rfl rfl (by omega) dL_law_353 dL_law_354 dL_law_355 dL_law_356 dL_law_357 rfl ?_
  refine L_call C (n := 1) h7 o_X7_append m_L_40 ⟨by decide, by decide⟩ at_0 rfl rfl (by first | exact Nat.le_of_ble_eq_true rfl | simp [Value.category]) (Nat.le_of_ble_eq_true rfl) hw rfl dL_law_358 rfl ?_
  rintro _ I1 P1 ⟨r1, rfl, rfl, hM⟩
  refine L_aload_n C (i := 2) rfl rfl dL_law_361 rfl ?_
  refine L_arg C (i := i) (n := 1) (by decide) rfl rfl (by omega) dL_law_362 dL_law_363 dL_law_364 dL_law_365 dL_law_366 rfl ?_
  refine L_call C (n := 1) (h8 I1 P1 hM) o_X8_append m_L_43 ⟨by decide, by decide⟩ at_688 rfl rfl (by first | exact Nat.le_of_ble_eq_true rfl | simp [Value.category]) (Nat.le_of_ble_eq_true rfl) hw rfl dL_law_367 rfl ?_
  rintro _ I2 P2 ⟨r2, rfl, rfl, hs2⟩
  exact L_icmp_eq C (tgt := 834) dL_law_370 (by decide) rfl (hk I2 P2 hs2)
set_option maxHeartbeats 4000000 in
set_option maxRecDepth 100000 in
theorem lk_clearText (C : LC p s m meth c b Ln xs g) (hi : i + 5 ≤ Ln) (hw : w ≤ 7302250) (hB : B + 9 < 1000000) (hs : Sm I P B) (hk : ∀ I2 P2, Sm I2 P2 (B + 9) → VL p l e s m below meth c b g T0 I2 P2 w 834 (LL b g i) []) : VL p l e s m below meth c b g T0 I P w 375 (LL b g i) [] := by
  obtain ⟨f, M, h7, h8⟩ := pr_clearText (l := l) (g := g) hs hB
  refine L_aload_n C (i := 1) rfl rfl dL_law_375 rfl ?_
  refine L_call C (n := 0) h7 o_X7_clearText m_L_44 ⟨by decide, by decide⟩ at_0 rfl rfl (by first | exact Nat.le_of_ble_eq_true rfl | simp [Value.category]) (Nat.le_of_ble_eq_true rfl) hw rfl dL_law_376 rfl ?_
  rintro _ I1 P1 ⟨r1, rfl, rfl, hM⟩
  refine L_aload_n C (i := 2) rfl rfl dL_law_379 rfl ?_
  refine L_call C (n := 0) (h8 I1 P1 hM) o_X8_clearText m_L_48 ⟨by decide, by decide⟩ at_688 rfl rfl (by first | exact Nat.le_of_ble_eq_true rfl | simp [Value.category]) (Nat.le_of_ble_eq_true rfl) hw rfl dL_law_380 rfl ?_
  rintro _ I2 P2 ⟨r2, rfl, rfl, hs2⟩
  exact L_icmp_eq C (tgt := 834) dL_law_383 (by decide) rfl (hk I2 P2 hs2)
set_option maxHeartbeats 4000000 in
set_option maxRecDepth 100000 in
theorem lk_fault (C : LC p s m meth c b Ln xs g) (hi : i + 5 ≤ Ln) (hw : w ≤ 7302250) (hB : B + 9 < 1000000) (hs : Sm I P B) (hk : ∀ I2 P2, Sm I2 P2 (B + 9) → VL p l e s m below meth c b g T0 I2 P2 w 834 (LL b g i) []) : VL p l e s m below meth c b g T0 I P w 388 (LL b g i) [] := by
  obtain ⟨f, M, h7, h8⟩ := pr_fault (l := l) (g := g) hs hB
  refine L_aload_n C (i := 1) rfl rfl dL_law_388 rfl ?_
  refine L_call C (n := 0) h7 o_X7_fault m_L_49 ⟨by decide, by decide⟩ at_0 rfl rfl (by first | exact Nat.le_of_ble_eq_true rfl | simp [Value.category]) (Nat.le_of_ble_eq_true rfl) hw rfl dL_law_389 rfl ?_
  rintro _ I1 P1 ⟨r1, rfl, rfl, hM⟩
  refine L_aload_n C (i := 2) rfl rfl dL_law_392 rfl ?_
  refine L_call C (n := 0) (h8 I1 P1 hM) o_X8_fault m_L_52 ⟨by decide, by decide⟩ at_688 rfl rfl (by first | exact Nat.le_of_ble_eq_true rfl | simp [Value.category]) (Nat.le_of_ble_eq_true rfl) hw rfl dL_law_393 rfl ?_
  rintro _ I2 P2 ⟨r2, rfl, rfl, hs2⟩
  exact L_icmp_eq C (tgt := 834) dL_law_396 (by decide) rfl (hk I2 P2 hs2)
set_option maxHeartbeats 4000000 in
set_option maxRecDepth 100000 in
theorem lk_run (C : LC p s m meth c b Ln xs g) (hi : i + 5 ≤ Ln) (hw : w ≤ 7302250) (hB : B + 9 < 1000000) (hs : Sm I P B) (hk : ∀ I2 P2, Sm I2 P2 (B + 9) → VL p l e s m below meth c b g T0 I2 P2 w 834 (LL b g i) []) : VL p l e s m below meth c b g T0 I P w 401 (LL b g i) [] := by
  obtain ⟨f, M, h7, h8⟩ := pr_run (l := l) (g := g) hs hB
  refine L_aload_n C (i := 1) rfl rfl dL_law_401 rfl ?_
  refine L_call C (n := 0) h7 o_X7_run m_L_53 ⟨by decide, by decide⟩ at_0 rfl rfl (by first | exact Nat.le_of_ble_eq_true rfl | simp [Value.category]) (Nat.le_of_ble_eq_true rfl) hw rfl dL_law_402 rfl ?_
  rintro _ I1 P1 ⟨r1, rfl, rfl, hM⟩
  refine L_aload_n C (i := 2) rfl rfl dL_law_405 rfl ?_
  refine L_call C (n := 0) (h8 I1 P1 hM) o_X8_run m_L_56 ⟨by decide, by decide⟩ at_688 rfl rfl (by first | exact Nat.le_of_ble_eq_true rfl | simp [Value.category]) (Nat.le_of_ble_eq_true rfl) hw rfl dL_law_406 rfl ?_
  rintro _ I2 P2 ⟨r2, rfl, rfl, hs2⟩
  exact L_icmp_eq C (tgt := 834) dL_law_409 (by decide) rfl (hk I2 P2 hs2)
set_option maxHeartbeats 4000000 in
set_option maxRecDepth 100000 in
theorem lk_undo (C : LC p s m meth c b Ln xs g) (hi : i + 5 ≤ Ln) (hw : w ≤ 7302250) (hB : B + 9 < 1000000) (hs : Sm I P B) (hk : ∀ I2 P2, Sm I2 P2 (B + 9) → VL p l e s m below meth c b g T0 I2 P2 w 834 (LL b g i) []) : VL p l e s m below meth c b g T0 I P w 414 (LL b g i) [] := by
  obtain ⟨f, M, h7, h8⟩ := pr_undo (l := l) (g := g) hs hB
  refine L_aload_n C (i := 1) rfl rfl dL_law_414 rfl ?_
  refine L_call C (n := 0) h7 o_X7_undo m_L_57 ⟨by decide, by decide⟩ at_0 rfl rfl (by first | exact Nat.le_of_ble_eq_true rfl | simp [Value.category]) (Nat.le_of_ble_eq_true rfl) hw rfl dL_law_415 rfl ?_
  rintro _ I1 P1 ⟨r1, rfl, rfl, hM⟩
  refine L_aload_n C (i := 2) rfl rfl dL_law_418 rfl ?_
  refine L_call C (n := 0) (h8 I1 P1 hM) o_X8_undo m_L_60 ⟨by decide, by decide⟩ at_688 rfl rfl (by first | exact Nat.le_of_ble_eq_true rfl | simp [Value.category]) (Nat.le_of_ble_eq_true rfl) hw rfl dL_law_419 rfl ?_
  rintro _ I2 P2 ⟨r2, rfl, rfl, hs2⟩
  exact L_icmp_eq C (tgt := 834) dL_law_422 (by decide) rfl (hk I2 P2 hs2)
set_option maxHeartbeats 4000000 in
set_option maxRecDepth 100000 in
theorem lk_save (C : LC p s m meth c b Ln xs g) (hi : i + 5 ≤ Ln) (hw : w ≤ 7302250) (hB : B + 9 < 1000000) (hs : Sm I P B) (hk : ∀ I2 P2, Sm I2 P2 (B + 9) → VL p l e s m below meth c b g T0 I2 P2 w 834 (LL b g i) []) : VL p l e s m below meth c b g T0 I P w 427 (LL b g i) [] := by
  obtain ⟨f, M, h7, h8⟩ := pr_save (l := l) (g := g) hs hB
  refine L_aload_n C (i := 1) rfl rfl dL_law_427 rfl ?_
  refine L_call C (n := 0) h7 o_X7_save m_L_61 ⟨by decide, by decide⟩ at_0 rfl rfl (by first | exact Nat.le_of_ble_eq_true rfl | simp [Value.category]) (Nat.le_of_ble_eq_true rfl) hw rfl dL_law_428 rfl ?_
  rintro _ I1 P1 ⟨r1, rfl, rfl, hM⟩
  refine L_aload_n C (i := 2) rfl rfl dL_law_431 rfl ?_
  refine L_call C (n := 0) (h8 I1 P1 hM) o_X8_save m_L_64 ⟨by decide, by decide⟩ at_688 rfl rfl (by first | exact Nat.le_of_ble_eq_true rfl | simp [Value.category]) (Nat.le_of_ble_eq_true rfl) hw rfl dL_law_432 rfl ?_
  rintro _ I2 P2 ⟨r2, rfl, rfl, hs2⟩
  exact L_icmp_eq C (tgt := 834) dL_law_435 (by decide) rfl (hk I2 P2 hs2)
set_option maxHeartbeats 4000000 in
set_option maxRecDepth 100000 in
theorem lk_restore (C : LC p s m meth c b Ln xs g) (hi : i + 5 ≤ Ln) (hw : w ≤ 7302250) (hB : B + 9 < 1000000) (hs : Sm I P B) (hk : ∀ I2 P2, Sm I2 P2 (B + 9) → VL p l e s m below meth c b g T0 I2 P2 w 834 (LL b g i) []) : VL p l e s m below meth c b g T0 I P w 440 (LL b g i) [] := by
  obtain ⟨f, M, h7, h8⟩ := pr_restore (l := l) (g := g) hs hB
  refine L_aload_n C (i := 1) rfl rfl dL_law_440 rfl ?_
  refine L_call C (n := 0) h7 o_X7_restore m_L_65 ⟨by decide, by decide⟩ at_0 rfl rfl (by first | exact Nat.le_of_ble_eq_true rfl | simp [Value.category]) (Nat.le_of_ble_eq_true rfl) hw rfl dL_law_441 rfl ?_
  rintro _ I1 P1 ⟨r1, rfl, rfl, hM⟩
  refine L_aload_n C (i := 2) rfl rfl dL_law_444 rfl ?_
  refine L_call C (n := 0) (h8 I1 P1 hM) o_X8_restore m_L_68 ⟨by decide, by decide⟩ at_688 rfl rfl (by first | exact Nat.le_of_ble_eq_true rfl | simp [Value.category]) (Nat.le_of_ble_eq_true rfl) hw rfl dL_law_445 rfl ?_
  rintro _ I2 P2 ⟨r2, rfl, rfl, hs2⟩
  exact L_icmp_eq C (tgt := 834) dL_law_448 (by decide) rfl (hk I2 P2 hs2)
set_option maxHeartbeats 4000000 in
set_option maxRecDepth 100000 in
theorem lk_player (C : LC p s m meth c b Ln xs g) (hi : i + 5 ≤ Ln) (hw : w ≤ 7302250) (hB : B + 9 < 1000000) (hs : Sm I P B) (hk : ∀ I2 P2, Sm I2 P2 (B + 9) → VL p l e s m below meth c b g T0 I2 P2 w 834 (LL b g i) []) : VL p l e s m below meth c b g T0 I P w 453 (LL b g i) [] := by
  obtain ⟨f, M, h7, h8⟩ := pr_player (l := l) (g := g) hs hB (xs (i + 1)) (xs (i + 2))
  refine L_aload_n C (i := 1) rfl rfl dL_law_453 rfl ?_
  refine L_arg C (i := i) (n := 1) (by decide) rfl rfl (by omega) dL_law_454 dL_law_455 dL_law_456 dL_law_457 dL_law_458 rfl ?_
  refine L_arg C (i := i) (n := 2) (by decide) rfl rfl (by omega) dL_law_459 dL_law_460 dL_law_461 dL_law_462 dL_law_463 rfl ?_
  refine L_call C (n := 2) h7 o_X7_player m_L_69 ⟨by decide, by decide⟩ at_0 rfl rfl (by first | exact Nat.le_of_ble_eq_true rfl | simp [Value.category]) (Nat.le_of_ble_eq_true rfl) hw rfl dL_law_464 rfl ?_
  rintro _ I1 P1 ⟨r1, rfl, rfl, hM⟩
  refine L_aload_n C (i := 2) rfl rfl dL_law_467 rfl ?_
  refine L_arg C (i := i) (n := 1) (by decide) rfl rfl (by omega) dL_law_468 dL_law_469 dL_law_470 dL_law_471 dL_law_472 rfl ?_
  refine L_arg C (i := i) (n := 2) (by decide) rfl rfl (by omega) dL_law_473 dL_law_474 dL_law_475 dL_law_476 dL_law_477 rfl ?_
  refine L_call C (n := 2) (h8 I1 P1 hM) o_X8_player m_L_72 ⟨by decide, by decide⟩ at_688 rfl rfl (by first | exact Nat.le_of_ble_eq_true rfl | simp [Value.category]) (Nat.le_of_ble_eq_true rfl) hw rfl dL_law_478 rfl ?_
  rintro _ I2 P2 ⟨r2, rfl, rfl, hs2⟩
  exact L_icmp_eq C (tgt := 834) dL_law_481 (by decide) rfl (hk I2 P2 hs2)
set_option maxHeartbeats 4000000 in
set_option maxRecDepth 100000 in
theorem lk_bite (C : LC p s m meth c b Ln xs g) (hi : i + 5 ≤ Ln) (hw : w ≤ 7302250) (hB : B + 9 < 1000000) (hs : Sm I P B) (hk : ∀ I2 P2, Sm I2 P2 (B + 9) → VL p l e s m below meth c b g T0 I2 P2 w 834 (LL b g i) []) : VL p l e s m below meth c b g T0 I P w 486 (LL b g i) [] := by
  obtain ⟨f, M, h7, h8⟩ := pr_bite (l := l) (g := g) hs hB (xs (i + 1)) (xs (i + 2)) (xs (i + 3))
  refine L_aload_n C (i := 1) rfl rfl dL_law_486 rfl ?_
  refine L_arg C (i := i) (n := 1) (by decide) rfl rfl (by omega) dL_law_487 dL_law_488 dL_law_489 dL_law_490 dL_law_491 rfl ?_
  refine L_arg C (i := i) (n := 2) (by decide) rfl rfl (by omega) dL_law_492 dL_law_493 dL_law_494 dL_law_495 dL_law_496 rfl ?_
  refine L_arg C (i := i) (n := 3) (by decide) rfl rfl (by omega) dL_law_497 dL_law_498 dL_law_499 dL_law_500 dL_law_501 rfl ?_
  refine L_call C (n := 3) h7 o_X7_bite m_L_73 ⟨by decide, by decide⟩ at_0 rfl rfl (by first | exact Nat.le_of_ble_eq_true rfl | simp [Value.category]) (Nat.le_of_ble_eq_true rfl) hw rfl dL_law_502 rfl ?_
  rintro _ I1 P1 ⟨r1, rfl, rfl, hM⟩
  refine L_aload_n C (i := 2) rfl rfl dL_law_505 rfl ?_
  refine L_arg C (i := i) (n := 1) (by decide) rfl rfl (by omega) dL_law_506 dL_law_507 dL_law_508 dL_law_509 dL_law_510 rfl ?_
  refine L_arg C (i := i) (n := 2) (by decide) rfl rfl (by omega) dL_law_511 dL_law_512 dL_law_513 dL_law_514 dL_law_515 rfl ?_
  refine L_arg C (i := i) (n := 3) (by decide) rfl rfl (by omega) dL_law_516 dL_law_517 dL_law_518 dL_law_519 dL_law_520 rfl ?_
  refine L_call C (n := 3) (h8 I1 P1 hM) o_X8_bite m_L_77 ⟨by decide, by decide⟩ at_688 rfl rfl (by first | exact Nat.le_of_ble_eq_true rfl | simp [Value.category]) (Nat.le_of_ble_eq_true rfl) hw rfl dL_law_521 rfl ?_
  rintro _ I2 P2 ⟨r2, rfl, rfl, hs2⟩
  exact L_icmp_eq C (tgt := 834) dL_law_524 (by decide) rfl (hk I2 P2 hs2)
set_option maxHeartbeats 4000000 in
set_option maxRecDepth 100000 in
theorem lk_snakeOf (C : LC p s m meth c b Ln xs g) (hi : i + 5 ≤ Ln) (hw : w ≤ 7302250) (hB : B + 9 < 1000000) (hs : Sm I P B) (hk : ∀ I2 P2, Sm I2 P2 (B + 9) → VL p l e s m below meth c b g T0 I2 P2 w 834 (LL b g i) []) : VL p l e s m below meth c b g T0 I P w 529 (LL b g i) [] := by
  obtain ⟨f, M, h7, h8⟩ := pr_snakeOf (l := l) (g := g) hs hB (xs (i + 1)) (xs (i + 2))
  refine L_aload_n C (i := 1) rfl rfl dL_law_529 rfl ?_
  refine L_arg C (i := i) (n := 1) (by decide) rfl rfl (by omega) dL_law_530 dL_law_531 dL_law_532 dL_law_533 dL_law_534 rfl ?_
  refine L_arg C (i := i) (n := 2) (by decide) rfl rfl (by omega) dL_law_535 dL_law_536 dL_law_537 dL_law_538 dL_law_539 rfl ?_
  refine L_call C (n := 2) h7 o_X7_snakeOf m_L_78 ⟨by decide, by decide⟩ at_0 rfl rfl (by first | exact Nat.le_of_ble_eq_true rfl | simp [Value.category]) (Nat.le_of_ble_eq_true rfl) hw rfl dL_law_540 rfl ?_
  rintro _ I1 P1 ⟨r1, rfl, rfl, hM⟩
  refine L_aload_n C (i := 2) rfl rfl dL_law_543 rfl ?_
  refine L_arg C (i := i) (n := 1) (by decide) rfl rfl (by omega) dL_law_544 dL_law_545 dL_law_546 dL_law_547 dL_law_548 rfl ?_
  refine L_arg C (i := i) (n := 2) (by decide) rfl rfl (by omega) dL_law_549 dL_law_550 dL_law_551 dL_law_552 dL_law_553 rfl ?_
  refine L_call C (n := 2) (h8 I1 P1 hM) o_X8_snakeOf m_L_81 ⟨by decide, by decide⟩ at_688 rfl rfl (by first | exact Nat.le_of_ble_eq_true rfl | simp [Value.category]) (Nat.le_of_ble_eq_true rfl) hw rfl dL_law_554 rfl ?_
  rintro _ I2 P2 ⟨r2, rfl, rfl, hs2⟩
  exact L_icmp_eq C (tgt := 834) dL_law_557 (by decide) rfl (hk I2 P2 hs2)
set_option maxHeartbeats 4000000 in
set_option maxRecDepth 100000 in
theorem lk_square (C : LC p s m meth c b Ln xs g) (hi : i + 5 ≤ Ln) (hw : w ≤ 7302250) (hB : B + 9 < 1000000) (hs : Sm I P B) (hk : ∀ I2 P2, Sm I2 P2 (B + 9) → VL p l e s m below meth c b g T0 I2 P2 w 834 (LL b g i) []) : VL p l e s m below meth c b g T0 I P w 562 (LL b g i) [] := by
  obtain ⟨f, M, h7, h8⟩ := pr_square (l := l) (g := g) hs hB (xs (i + 1)) (xs (i + 2))
  refine L_aload_n C (i := 1) rfl rfl dL_law_562 rfl ?_
  refine L_arg C (i := i) (n := 1) (by decide) rfl rfl (by omega) dL_law_563 dL_law_564 dL_law_565 dL_law_566 dL_law_567 rfl ?_
  refine L_arg C (i := i) (n := 2) (by decide) rfl rfl (by omega) dL_law_568 dL_law_569 dL_law_570 dL_law_571 dL_law_572 rfl ?_
  refine L_call C (n := 2) h7 o_X7_square m_L_82 ⟨by decide, by decide⟩ at_0 rfl rfl (by first | exact Nat.le_of_ble_eq_true rfl | simp [Value.category]) (Nat.le_of_ble_eq_true rfl) hw rfl dL_law_573 rfl ?_
  rintro _ I1 P1 ⟨r1, rfl, rfl, hM⟩
  refine L_aload_n C (i := 2) rfl rfl dL_law_576 rfl ?_
  refine L_arg C (i := i) (n := 1) (by decide) rfl rfl (by omega) dL_law_577 dL_law_578 dL_law_579 dL_law_580 dL_law_581 rfl ?_
  refine L_arg C (i := i) (n := 2) (by decide) rfl rfl (by omega) dL_law_582 dL_law_583 dL_law_584 dL_law_585 dL_law_586 rfl ?_
  refine L_call C (n := 2) (h8 I1 P1 hM) o_X8_square m_L_85 ⟨by decide, by decide⟩ at_688 rfl rfl (by first | exact Nat.le_of_ble_eq_true rfl | simp [Value.category]) (Nat.le_of_ble_eq_true rfl) hw rfl dL_law_587 rfl ?_
  rintro _ I2 P2 ⟨r2, rfl, rfl, hs2⟩
  exact L_icmp_eq C (tgt := 834) dL_law_590 (by decide) rfl (hk I2 P2 hs2)
set_option maxHeartbeats 4000000 in
set_option maxRecDepth 100000 in
theorem lk_count (C : LC p s m meth c b Ln xs g) (hi : i + 5 ≤ Ln) (hw : w ≤ 7302250) (hB : B + 9 < 1000000) (hs : Sm I P B) (hk : ∀ I2 P2, Sm I2 P2 (B + 9) → VL p l e s m below meth c b g T0 I2 P2 w 834 (LL b g i) []) : VL p l e s m below meth c b g T0 I P w 595 (LL b g i) [] := by
  obtain ⟨f, M, h7, h8⟩ := pr_count (l := l) (g := g) hs hB (xs (i + 1))
  refine L_aload_n C (i := 1) rfl rfl dL_law_595 rfl ?_
  refine L_arg C (i := i) (n := 1) (by decide) rfl rfl (by omega) dL_law_596 dL_law_597 dL_law_598 dL_law_599 dL_law_600 rfl ?_
  refine L_call C (n := 1) h7 o_X7_count m_L_86 ⟨by decide, by decide⟩ at_0 rfl rfl (by first | exact Nat.le_of_ble_eq_true rfl | simp [Value.category]) (Nat.le_of_ble_eq_true rfl) hw rfl dL_law_601 rfl ?_
  rintro _ I1 P1 ⟨r1, rfl, rfl, hM⟩
  refine L_aload_n C (i := 2) rfl rfl dL_law_604 rfl ?_
  refine L_arg C (i := i) (n := 1) (by decide) rfl rfl (by omega) dL_law_605 dL_law_606 dL_law_607 dL_law_608 dL_law_609 rfl ?_
  refine L_call C (n := 1) (h8 I1 P1 hM) o_X8_count m_L_89 ⟨by decide, by decide⟩ at_688 rfl rfl (by first | exact Nat.le_of_ble_eq_true rfl | simp [Value.category]) (Nat.le_of_ble_eq_true rfl) hw rfl dL_law_610 rfl ?_
  rintro _ I2 P2 ⟨r2, rfl, rfl, hs2⟩
  exact L_icmp_eq C (tgt := 834) dL_law_613 (by decide) rfl (hk I2 P2 hs2)
set_option maxHeartbeats 4000000 in
set_option maxRecDepth 100000 in
theorem lk_why (C : LC p s m meth c b Ln xs g) (hi : i + 5 ≤ Ln) (hw : w ≤ 7302250) (hB : B + 9 < 1000000) (hs : Sm I P B) (hk : ∀ I2 P2, Sm I2 P2 (B + 9) → VL p l e s m below meth c b g T0 I2 P2 w 834 (LL b g i) []) : VL p l e s m below meth c b g T0 I P w 618 (LL b g i) [] := by
  obtain ⟨f, M, h7, h8⟩ := pr_why (l := l) (g := g) hs hB (xs (i + 1)) (xs (i + 2)) (xs (i + 3)) (xs (i + 4))
  refine L_aload_n C (i := 1) rfl rfl dL_law_618 rfl ?_
  refine L_arg C (i := i) (n := 1) (by decide) rfl rfl (by omega) dL_law_619 dL_law_620 dL_law_621 dL_law_622 dL_law_623 rfl ?_
  refine L_arg C (i := i) (n := 2) (by decide) rfl rfl (by omega) dL_law_624 dL_law_625 dL_law_626 dL_law_627 dL_law_628 rfl ?_
  refine L_arg C (i := i) (n := 3) (by decide) rfl rfl (by omega) dL_law_629 dL_law_630 dL_law_631 dL_law_632 dL_law_633 rfl ?_
  refine L_arg C (i := i) (n := 4) (by decide) rfl rfl (by omega) dL_law_634 dL_law_635 dL_law_636 dL_law_637 dL_law_638 rfl ?_
  refine L_call C (n := 4) h7 o_X7_why m_L_90 ⟨by decide, by decide⟩ at_0 rfl rfl (by first | exact Nat.le_of_ble_eq_true rfl | simp [Value.category]) (Nat.le_of_ble_eq_true rfl) hw rfl dL_law_639 rfl ?_
  rintro _ I1 P1 ⟨r1, rfl, rfl, hM⟩
  refine L_aload_n C (i := 2) rfl rfl dL_law_642 rfl ?_
  refine L_arg C (i := i) (n := 1) (by decide) rfl rfl (by omega) dL_law_643 dL_law_644 dL_law_645 dL_law_646 dL_law_647 rfl ?_
  refine L_arg C (i := i) (n := 2) (by decide) rfl rfl (by omega) dL_law_648 dL_law_649 dL_law_650 dL_law_651 dL_law_652 rfl ?_
  refine L_arg C (i := i) (n := 3) (by decide) rfl rfl (by omega) dL_law_653 dL_law_654 dL_law_655 dL_law_656 dL_law_657 rfl ?_
  refine L_arg C (i := i) (n := 4) (by decide) rfl rfl (by omega) dL_law_658 dL_law_659 dL_law_660 dL_law_661 dL_law_662 rfl ?_
  refine L_call C (n := 4) (h8 I1 P1 hM) o_X8_why m_L_93 ⟨by decide, by decide⟩ at_688 rfl rfl (by first | exact Nat.le_of_ble_eq_true rfl | simp [Value.category]) (Nat.le_of_ble_eq_true rfl) hw rfl dL_law_663 rfl ?_
  rintro _ I2 P2 ⟨r2, rfl, rfl, hs2⟩
  exact L_icmp_eq C (tgt := 834) dL_law_666 (by decide) rfl (hk I2 P2 hs2)
set_option maxHeartbeats 4000000 in
set_option maxRecDepth 100000 in
theorem lk_cheapest (C : LC p s m meth c b Ln xs g) (hi : i + 5 ≤ Ln) (hw : w ≤ 7302250) (hB : B + 9 < 1000000) (hs : Sm I P B) (hk : ∀ I2 P2, Sm I2 P2 (B + 9) → VL p l e s m below meth c b g T0 I2 P2 w 834 (LL b g i) []) : VL p l e s m below meth c b g T0 I P w 671 (LL b g i) [] := by
  obtain ⟨f, M, h7, h8⟩ := pr_cheapest (l := l) (g := g) hs hB (xs (i + 1)) (xs (i + 2))
  refine L_aload_n C (i := 1) rfl rfl dL_law_671 rfl ?_
  refine L_arg C (i := i) (n := 1) (by decide) rfl rfl (by omega) dL_law_672 dL_law_673 dL_law_674 dL_law_675 dL_law_676 rfl ?_
  refine L_arg C (i := i) (n := 2) (by decide) rfl rfl (by omega) dL_law_677 dL_law_678 dL_law_679 dL_law_680 dL_law_681 rfl ?_
  refine L_call C (n := 2) h7 o_X7_cheapest m_L_94 ⟨by decide, by decide⟩ at_0 rfl rfl (by first | exact Nat.le_of_ble_eq_true rfl | simp [Value.category]) (Nat.le_of_ble_eq_true rfl) hw rfl dL_law_682 rfl ?_
  rintro _ I1 P1 ⟨r1, rfl, rfl, hM⟩
  refine L_aload_n C (i := 2) rfl rfl dL_law_685 rfl ?_
  refine L_arg C (i := i) (n := 1) (by decide) rfl rfl (by omega) dL_law_686 dL_law_687 dL_law_688 dL_law_689 dL_law_690 rfl ?_
  refine L_arg C (i := i) (n := 2) (by decide) rfl rfl (by omega) dL_law_691 dL_law_692 dL_law_693 dL_law_694 dL_law_695 rfl ?_
  refine L_call C (n := 2) (h8 I1 P1 hM) o_X8_cheapest m_L_97 ⟨by decide, by decide⟩ at_688 rfl rfl (by first | exact Nat.le_of_ble_eq_true rfl | simp [Value.category]) (Nat.le_of_ble_eq_true rfl) hw rfl dL_law_696 rfl ?_
  rintro _ I2 P2 ⟨r2, rfl, rfl, hs2⟩
  exact L_icmp_eq C (tgt := 834) dL_law_699 (by decide) rfl (hk I2 P2 hs2)
set_option maxHeartbeats 4000000 in
set_option maxRecDepth 100000 in
theorem lk_dangers (C : LC p s m meth c b Ln xs g) (hi : i + 5 ≤ Ln) (hw : w ≤ 7302250) (hB : B + 9 < 1000000) (hs : Sm I P B) (hk : ∀ I2 P2, Sm I2 P2 (B + 9) → VL p l e s m below meth c b g T0 I2 P2 w 834 (LL b g i) []) : VL p l e s m below meth c b g T0 I P w 704 (LL b g i) [] := by
  obtain ⟨f, M, h7, h8⟩ := pr_dangers (l := l) (g := g) hs hB (xs (i + 1))
  refine L_aload_n C (i := 1) rfl rfl dL_law_704 rfl ?_
  refine L_arg C (i := i) (n := 1) (by decide) rfl rfl (by omega) dL_law_705 dL_law_706 dL_law_707 dL_law_708 dL_law_709 rfl ?_
  refine L_call C (n := 1) h7 o_X7_dangers m_L_98 ⟨by decide, by decide⟩ at_0 rfl rfl (by first | exact Nat.le_of_ble_eq_true rfl | simp [Value.category]) (Nat.le_of_ble_eq_true rfl) hw rfl dL_law_710 rfl ?_
  rintro _ I1 P1 ⟨r1, rfl, rfl, hM⟩
  refine L_aload_n C (i := 2) rfl rfl dL_law_713 rfl ?_
  refine L_arg C (i := i) (n := 1) (by decide) rfl rfl (by omega) dL_law_714 dL_law_715 dL_law_716 dL_law_717 dL_law_718 rfl ?_
  refine L_call C (n := 1) (h8 I1 P1 hM) o_X8_dangers m_L_101 ⟨by decide, by decide⟩ at_688 rfl rfl (by first | exact Nat.le_of_ble_eq_true rfl | simp [Value.category]) (Nat.le_of_ble_eq_true rfl) hw rfl dL_law_719 rfl ?_
  rintro _ I2 P2 ⟨r2, rfl, rfl, hs2⟩
  exact L_icmp_eq C (tgt := 834) dL_law_722 (by decide) rfl (hk I2 P2 hs2)
set_option maxHeartbeats 4000000 in
set_option maxRecDepth 100000 in
theorem lk_fewest (C : LC p s m meth c b Ln xs g) (hi : i + 5 ≤ Ln) (hw : w ≤ 7302250) (hB : B + 9 < 1000000) (hs : Sm I P B) (hk : ∀ I2 P2, Sm I2 P2 (B + 9) → VL p l e s m below meth c b g T0 I2 P2 w 834 (LL b g i) []) : VL p l e s m below meth c b g T0 I P w 727 (LL b g i) [] := by
  obtain ⟨f, M, h7, h8⟩ := pr_fewest (l := l) (g := g) hs hB (xs (i + 1)) (xs (i + 2))
  refine L_aload_n C (i := 1) rfl rfl dL_law_727 rfl ?_
  refine L_arg C (i := i) (n := 1) (by decide) rfl rfl (by omega) dL_law_728 dL_law_729 dL_law_730 dL_law_731 dL_law_732 rfl ?_
  refine L_arg C (i := i) (n := 2) (by decide) rfl rfl (by omega) dL_law_733 dL_law_734 dL_law_735 dL_law_736 dL_law_737 rfl ?_
  refine L_call C (n := 2) h7 o_X7_fewest m_L_102 ⟨by decide, by decide⟩ at_0 rfl rfl (by first | exact Nat.le_of_ble_eq_true rfl | simp [Value.category]) (Nat.le_of_ble_eq_true rfl) hw rfl dL_law_738 rfl ?_
  rintro _ I1 P1 ⟨r1, rfl, rfl, hM⟩
  refine L_aload_n C (i := 2) rfl rfl dL_law_741 rfl ?_
  refine L_arg C (i := i) (n := 1) (by decide) rfl rfl (by omega) dL_law_742 dL_law_743 dL_law_744 dL_law_745 dL_law_746 rfl ?_
  refine L_arg C (i := i) (n := 2) (by decide) rfl rfl (by omega) dL_law_747 dL_law_748 dL_law_749 dL_law_750 dL_law_751 rfl ?_
  refine L_call C (n := 2) (h8 I1 P1 hM) o_X8_fewest m_L_105 ⟨by decide, by decide⟩ at_688 rfl rfl (by first | exact Nat.le_of_ble_eq_true rfl | simp [Value.category]) (Nat.le_of_ble_eq_true rfl) hw rfl dL_law_752 rfl ?_
  rintro _ I2 P2 ⟨r2, rfl, rfl, hs2⟩
  exact L_icmp_eq C (tgt := 834) dL_law_755 (by decide) rfl (hk I2 P2 hs2)
set_option maxHeartbeats 4000000 in
set_option maxRecDepth 100000 in
theorem lk_nextHome (C : LC p s m meth c b Ln xs g) (hi : i + 5 ≤ Ln) (hw : w ≤ 7302250) (hB : B + 9 < 1000000) (hs : Sm I P B) (hk : ∀ I2 P2, Sm I2 P2 (B + 9) → VL p l e s m below meth c b g T0 I2 P2 w 834 (LL b g i) []) : VL p l e s m below meth c b g T0 I P w 760 (LL b g i) [] := by
  obtain ⟨f, M, h7, h8⟩ := pr_nextHome (l := l) (g := g) hs hB (xs (i + 1))
  refine L_aload_n C (i := 1) rfl rfl dL_law_760 rfl ?_
  refine L_arg C (i := i) (n := 1) (by decide) rfl rfl (by omega) dL_law_761 dL_law_762 dL_law_763 dL_law_764 dL_law_765 rfl ?_
  refine L_call C (n := 1) h7 o_X7_nextHome m_L_106 ⟨by decide, by decide⟩ at_0 rfl rfl (by first | exact Nat.le_of_ble_eq_true rfl | simp [Value.category]) (Nat.le_of_ble_eq_true rfl) hw rfl dL_law_766 rfl ?_
  rintro _ I1 P1 ⟨r1, rfl, rfl, hM⟩
  refine L_aload_n C (i := 2) rfl rfl dL_law_769 rfl ?_
  refine L_arg C (i := i) (n := 1) (by decide) rfl rfl (by omega) dL_law_770 dL_law_771 dL_law_772 dL_law_773 dL_law_774 rfl ?_
  refine L_call C (n := 1) (h8 I1 P1 hM) o_X8_nextHome m_L_109 ⟨by decide, by decide⟩ at_688 rfl rfl (by first | exact Nat.le_of_ble_eq_true rfl | simp [Value.category]) (Nat.le_of_ble_eq_true rfl) hw rfl dL_law_775 rfl ?_
  rintro _ I2 P2 ⟨r2, rfl, rfl, hs2⟩
  exact L_icmp_eq C (tgt := 834) dL_law_778 (by decide) rfl (hk I2 P2 hs2)
end LAWC
