/-! THE LAW'S LOOP -/
theorem zm31 (x : Int32) : ∃ k : Nat, k ≤ 31 ∧ x &&& nI 31 = nI k := by
  refine ⟨(x &&& nI 31).toBitVec.toNat, ?_, ?_⟩
  · rw [Int32.toBitVec_and, BitVec.toNat_and]
    exact Nat.and_le_right
  · apply Int32.toBitVec_inj.mp
    apply BitVec.eq_of_toNat_eq
    have h : (x &&& nI 31).toBitVec.toNat < 2 ^ 32 := BitVec.isLt _
    show _ = (BitVec.ofNat 32 _).toNat
    rw [BitVec.toNat_ofNat, Nat.mod_eq_of_lt h]
theorem zlg {L j : Nat} (hL : L ≤ 2048) (hj : j ≤ 4096) : nI L - nI 4 < nI j ↔ L < j + 4 := by
  rw [Int32.lt_iff_toInt_lt, Int32.toInt_sub, nI_toInt (by omega), nI_toInt (by omega), nI_toInt (by omega), Int.bmod_eq_of_le (by omega) (by omega)]
  omega
set_option maxHeartbeats 1000000 in
set_option maxRecDepth 100000 in
theorem zlw_letter {t : zMod} {u : zCls} {L j d : Nat} {xs : Nat → Int32} {Q : Option Int32 → List zC → Prop} (h : zINV t u) (hj : j + 4 ≤ L) (hL : L ≤ 2048) (hd : 62 ≤ d) (kk : ∀ (t1 : zMod) (u1 : zCls), zINV t1 u1 → Rq mL_law d (some (L, xs)) 875 [.ref 999, .ref 11, .ref 0, .int (nI j)] [] (hA t1 u1) Q) : Rq mL_law d (some (L, xs)) 172 [.ref 999, .ref 11, .ref 0, .int (nI j)] [] (hA t u) Q := by
  refine r_aload_n eL_law_172 rfl rfl ?_
  refine r_aload_n eL_law_173 rfl rfl ?_
  refine r_iload_n eL_law_174 rfl rfl ?_
  refine n_iconst 1 eL_law_175 rfl ?_
  refine n_add eL_law_176 ?_
  refine r_sld (j := j + 1) eL_law_177 rfl (by omega) (by omega) ?_
  refine r_callVi1 eL_law_178 lL_13 (Or.inl ⟨_, _, _, rfl, rfl, rfl⟩) (b_letter h (xs (j + 1))) (by omega) (Nat.le_of_ble_eq_true rfl) (fun r1 h1 hq => ?_)
  obtain ⟨u1, rfl, hM⟩ := hq
  refine r_aload_n eL_law_181 rfl rfl ?_
  refine r_aload_n eL_law_182 rfl rfl ?_
  refine r_iload_n eL_law_183 rfl rfl ?_
  refine n_iconst 1 eL_law_184 rfl ?_
  refine n_add eL_law_185 ?_
  refine r_sld (j := j + 1) eL_law_186 rfl (by omega) (by omega) ?_
  refine r_callVi1 eL_law_187 lL_17 (Or.inl ⟨_, _, _, rfl, rfl, rfl⟩) (hM) (by omega) (Nat.le_of_ble_eq_true rfl) (fun r1 h1 hq => ?_)
  obtain ⟨rfl, t1, rfl, hi⟩ := hq
  refine r_icmp_eq eL_law_190 (fun hc190 => ?_) (fun hc190 => absurd hc190 (fun z => z rfl))
  exact kk _ _ hi
set_option maxHeartbeats 1000000 in
set_option maxRecDepth 100000 in
theorem zlw_town {t : zMod} {u : zCls} {L j d : Nat} {xs : Nat → Int32} {Q : Option Int32 → List zC → Prop} (h : zINV t u) (hj : j + 4 ≤ L) (hL : L ≤ 2048) (hd : 62 ≤ d) (kk : ∀ (t1 : zMod) (u1 : zCls), zINV t1 u1 → Rq mL_law d (some (L, xs)) 875 [.ref 999, .ref 11, .ref 0, .int (nI j)] [] (hA t1 u1) Q) : Rq mL_law d (some (L, xs)) 195 [.ref 999, .ref 11, .ref 0, .int (nI j)] [] (hA t u) Q := by
  refine r_aload_n eL_law_195 rfl rfl ?_
  refine r_callVi0 eL_law_196 lL_18 (Or.inl ⟨_, _, _, rfl, rfl, rfl⟩) (b_town h ) (by omega) (Nat.le_of_ble_eq_true rfl) (fun r1 h1 hq => ?_)
  obtain ⟨u1, rfl, hM⟩ := hq
  refine r_aload_n eL_law_199 rfl rfl ?_
  refine r_callVi0 eL_law_200 lL_22 (Or.inl ⟨_, _, _, rfl, rfl, rfl⟩) (hM) (by omega) (Nat.le_of_ble_eq_true rfl) (fun r1 h1 hq => ?_)
  obtain ⟨rfl, t1, rfl, hi⟩ := hq
  refine r_icmp_eq eL_law_203 (fun hc203 => ?_) (fun hc203 => absurd hc203 (fun z => z rfl))
  exact kk _ _ hi
set_option maxHeartbeats 1000000 in
set_option maxRecDepth 100000 in
theorem zlw_person {t : zMod} {u : zCls} {L j d : Nat} {xs : Nat → Int32} {Q : Option Int32 → List zC → Prop} (h : zINV t u) (hj : j + 4 ≤ L) (hL : L ≤ 2048) (hd : 62 ≤ d) (kk : ∀ (t1 : zMod) (u1 : zCls), zINV t1 u1 → Rq mL_law d (some (L, xs)) 875 [.ref 999, .ref 11, .ref 0, .int (nI j)] [] (hA t1 u1) Q) : Rq mL_law d (some (L, xs)) 208 [.ref 999, .ref 11, .ref 0, .int (nI j)] [] (hA t u) Q := by
  refine r_aload_n eL_law_208 rfl rfl ?_
  refine r_aload_n eL_law_209 rfl rfl ?_
  refine r_iload_n eL_law_210 rfl rfl ?_
  refine n_iconst 1 eL_law_211 rfl ?_
  refine n_add eL_law_212 ?_
  refine r_sld (j := j + 1) eL_law_213 rfl (by omega) (by omega) ?_
  refine r_aload_n eL_law_214 rfl rfl ?_
  refine r_iload_n eL_law_215 rfl rfl ?_
  refine n_iconst 2 eL_law_216 rfl ?_
  refine n_add eL_law_217 ?_
  refine r_sld (j := j + 2) eL_law_218 rfl (by omega) (by omega) ?_
  refine r_callVi2 eL_law_219 lL_23 (Or.inl ⟨_, _, _, rfl, rfl, rfl⟩) (b_person h (xs (j + 1)) (xs (j + 2))) (by omega) (Nat.le_of_ble_eq_true rfl) (fun r1 h1 hq => ?_)
  obtain ⟨u1, rfl, hM⟩ := hq
  refine r_aload_n eL_law_222 rfl rfl ?_
  refine r_aload_n eL_law_223 rfl rfl ?_
  refine r_iload_n eL_law_224 rfl rfl ?_
  refine n_iconst 1 eL_law_225 rfl ?_
  refine n_add eL_law_226 ?_
  refine r_sld (j := j + 1) eL_law_227 rfl (by omega) (by omega) ?_
  refine r_aload_n eL_law_228 rfl rfl ?_
  refine r_iload_n eL_law_229 rfl rfl ?_
  refine n_iconst 2 eL_law_230 rfl ?_
  refine n_add eL_law_231 ?_
  refine r_sld (j := j + 2) eL_law_232 rfl (by omega) (by omega) ?_
  refine r_callVi2 eL_law_233 lL_27 (Or.inl ⟨_, _, _, rfl, rfl, rfl⟩) (hM) (by omega) (Nat.le_of_ble_eq_true rfl) (fun r1 h1 hq => ?_)
  obtain ⟨rfl, t1, rfl, hi⟩ := hq
  refine r_icmp_eq eL_law_236 (fun hc236 => ?_) (fun hc236 => absurd hc236 (fun z => z rfl))
  exact kk _ _ hi
set_option maxHeartbeats 1000000 in
set_option maxRecDepth 100000 in
theorem zlw_key {t : zMod} {u : zCls} {L j d : Nat} {xs : Nat → Int32} {Q : Option Int32 → List zC → Prop} (h : zINV t u) (hj : j + 4 ≤ L) (hL : L ≤ 2048) (hd : 62 ≤ d) (kk : ∀ (t1 : zMod) (u1 : zCls), zINV t1 u1 → Rq mL_law d (some (L, xs)) 875 [.ref 999, .ref 11, .ref 0, .int (nI j)] [] (hA t1 u1) Q) : Rq mL_law d (some (L, xs)) 241 [.ref 999, .ref 11, .ref 0, .int (nI j)] [] (hA t u) Q := by
  refine r_aload_n eL_law_241 rfl rfl ?_
  refine r_aload_n eL_law_242 rfl rfl ?_
  refine r_iload_n eL_law_243 rfl rfl ?_
  refine n_iconst 1 eL_law_244 rfl ?_
  refine n_add eL_law_245 ?_
  refine r_sld (j := j + 1) eL_law_246 rfl (by omega) (by omega) ?_
  refine r_aload_n eL_law_247 rfl rfl ?_
  refine r_iload_n eL_law_248 rfl rfl ?_
  refine n_iconst 2 eL_law_249 rfl ?_
  refine n_add eL_law_250 ?_
  refine r_sld (j := j + 2) eL_law_251 rfl (by omega) (by omega) ?_
  refine r_callVi2 eL_law_252 lL_28 (Or.inl ⟨_, _, _, rfl, rfl, rfl⟩) (b_key h (xs (j + 1)) (xs (j + 2))) (by omega) (Nat.le_of_ble_eq_true rfl) (fun r1 h1 hq => ?_)
  obtain ⟨u1, rfl, hM⟩ := hq
  refine r_aload_n eL_law_255 rfl rfl ?_
  refine r_aload_n eL_law_256 rfl rfl ?_
  refine r_iload_n eL_law_257 rfl rfl ?_
  refine n_iconst 1 eL_law_258 rfl ?_
  refine n_add eL_law_259 ?_
  refine r_sld (j := j + 1) eL_law_260 rfl (by omega) (by omega) ?_
  refine r_aload_n eL_law_261 rfl rfl ?_
  refine r_iload_n eL_law_262 rfl rfl ?_
  refine n_iconst 2 eL_law_263 rfl ?_
  refine n_add eL_law_264 ?_
  refine r_sld (j := j + 2) eL_law_265 rfl (by omega) (by omega) ?_
  refine r_callVi2 eL_law_266 lL_31 (Or.inl ⟨_, _, _, rfl, rfl, rfl⟩) (hM) (by omega) (Nat.le_of_ble_eq_true rfl) (fun r1 h1 hq => ?_)
  obtain ⟨rfl, t1, rfl, hi⟩ := hq
  refine r_icmp_eq eL_law_269 (fun hc269 => ?_) (fun hc269 => absurd hc269 (fun z => z rfl))
  exact kk _ _ hi
set_option maxHeartbeats 1000000 in
set_option maxRecDepth 100000 in
theorem zlw_give {t : zMod} {u : zCls} {L j d : Nat} {xs : Nat → Int32} {Q : Option Int32 → List zC → Prop} (h : zINV t u) (hj : j + 4 ≤ L) (hL : L ≤ 2048) (hd : 62 ≤ d) (kk : ∀ (t1 : zMod) (u1 : zCls), zINV t1 u1 → Rq mL_law d (some (L, xs)) 875 [.ref 999, .ref 11, .ref 0, .int (nI j)] [] (hA t1 u1) Q) : Rq mL_law d (some (L, xs)) 274 [.ref 999, .ref 11, .ref 0, .int (nI j)] [] (hA t u) Q := by
  refine r_aload_n eL_law_274 rfl rfl ?_
  refine r_aload_n eL_law_275 rfl rfl ?_
  refine r_iload_n eL_law_276 rfl rfl ?_
  refine n_iconst 1 eL_law_277 rfl ?_
  refine n_add eL_law_278 ?_
  refine r_sld (j := j + 1) eL_law_279 rfl (by omega) (by omega) ?_
  refine r_aload_n eL_law_280 rfl rfl ?_
  refine r_iload_n eL_law_281 rfl rfl ?_
  refine n_iconst 2 eL_law_282 rfl ?_
  refine n_add eL_law_283 ?_
  refine r_sld (j := j + 2) eL_law_284 rfl (by omega) (by omega) ?_
  refine r_callVi2 eL_law_285 lL_32 (Or.inl ⟨_, _, _, rfl, rfl, rfl⟩) (b_give h (xs (j + 1)) (xs (j + 2))) (by omega) (Nat.le_of_ble_eq_true rfl) (fun r1 h1 hq => ?_)
  obtain ⟨u1, rfl, hM⟩ := hq
  refine r_aload_n eL_law_288 rfl rfl ?_
  refine r_aload_n eL_law_289 rfl rfl ?_
  refine r_iload_n eL_law_290 rfl rfl ?_
  refine n_iconst 1 eL_law_291 rfl ?_
  refine n_add eL_law_292 ?_
  refine r_sld (j := j + 1) eL_law_293 rfl (by omega) (by omega) ?_
  refine r_aload_n eL_law_294 rfl rfl ?_
  refine r_iload_n eL_law_295 rfl rfl ?_
  refine n_iconst 2 eL_law_296 rfl ?_
  refine n_add eL_law_297 ?_
  refine r_sld (j := j + 2) eL_law_298 rfl (by omega) (by omega) ?_
  refine r_callVi2 eL_law_299 lL_35 (Or.inl ⟨_, _, _, rfl, rfl, rfl⟩) (hM) (by omega) (Nat.le_of_ble_eq_true rfl) (fun r1 h1 hq => ?_)
  obtain ⟨rfl, t1, rfl, hi⟩ := hq
  refine r_icmp_eq eL_law_302 (fun hc302 => ?_) (fun hc302 => absurd hc302 (fun z => z rfl))
  exact kk _ _ hi
set_option maxHeartbeats 1000000 in
set_option maxRecDepth 100000 in
theorem zlw_cast {t : zMod} {u : zCls} {L j d : Nat} {xs : Nat → Int32} {Q : Option Int32 → List zC → Prop} (h : zINV t u) (hj : j + 4 ≤ L) (hL : L ≤ 2048) (hd : 62 ≤ d) (kk : ∀ (t1 : zMod) (u1 : zCls), zINV t1 u1 → Rq mL_law d (some (L, xs)) 875 [.ref 999, .ref 11, .ref 0, .int (nI j)] [] (hA t1 u1) Q) : Rq mL_law d (some (L, xs)) 307 [.ref 999, .ref 11, .ref 0, .int (nI j)] [] (hA t u) Q := by
  refine r_aload_n eL_law_307 rfl rfl ?_
  refine r_aload_n eL_law_308 rfl rfl ?_
  refine r_iload_n eL_law_309 rfl rfl ?_
  refine n_iconst 1 eL_law_310 rfl ?_
  refine n_add eL_law_311 ?_
  refine r_sld (j := j + 1) eL_law_312 rfl (by omega) (by omega) ?_
  refine r_aload_n eL_law_313 rfl rfl ?_
  refine r_iload_n eL_law_314 rfl rfl ?_
  refine n_iconst 2 eL_law_315 rfl ?_
  refine n_add eL_law_316 ?_
  refine r_sld (j := j + 2) eL_law_317 rfl (by omega) (by omega) ?_
  refine r_callVi2 eL_law_318 lL_36 (Or.inl ⟨_, _, _, rfl, rfl, rfl⟩) (b_cast h (xs (j + 1)) (xs (j + 2))) (by omega) (Nat.le_of_ble_eq_true rfl) (fun r1 h1 hq => ?_)
  obtain ⟨u1, rfl, hM⟩ := hq
  refine r_aload_n eL_law_321 rfl rfl ?_
  refine r_aload_n eL_law_322 rfl rfl ?_
  refine r_iload_n eL_law_323 rfl rfl ?_
  refine n_iconst 1 eL_law_324 rfl ?_
  refine n_add eL_law_325 ?_
  refine r_sld (j := j + 1) eL_law_326 rfl (by omega) (by omega) ?_
  refine r_aload_n eL_law_327 rfl rfl ?_
  refine r_iload_n eL_law_328 rfl rfl ?_
  refine n_iconst 2 eL_law_329 rfl ?_
  refine n_add eL_law_330 ?_
  refine r_sld (j := j + 2) eL_law_331 rfl (by omega) (by omega) ?_
  refine r_callVi2 eL_law_332 lL_39 (Or.inl ⟨_, _, _, rfl, rfl, rfl⟩) (hM) (by omega) (Nat.le_of_ble_eq_true rfl) (fun r1 h1 hq => ?_)
  obtain ⟨rfl, t1, rfl, hi⟩ := hq
  refine r_icmp_eq eL_law_335 (fun hc335 => ?_) (fun hc335 => absurd hc335 (fun z => z rfl))
  exact kk _ _ hi
set_option maxHeartbeats 1000000 in
set_option maxRecDepth 100000 in
theorem zlw_lose {t : zMod} {u : zCls} {L j d : Nat} {xs : Nat → Int32} {Q : Option Int32 → List zC → Prop} (h : zINV t u) (hj : j + 4 ≤ L) (hL : L ≤ 2048) (hd : 62 ≤ d) (kk : ∀ (t1 : zMod) (u1 : zCls), zINV t1 u1 → Rq mL_law d (some (L, xs)) 875 [.ref 999, .ref 11, .ref 0, .int (nI j)] [] (hA t1 u1) Q) : Rq mL_law d (some (L, xs)) 340 [.ref 999, .ref 11, .ref 0, .int (nI j)] [] (hA t u) Q := by
  refine r_aload_n eL_law_340 rfl rfl ?_
  refine r_aload_n eL_law_341 rfl rfl ?_
  refine r_iload_n eL_law_342 rfl rfl ?_
  refine n_iconst 1 eL_law_343 rfl ?_
  refine n_add eL_law_344 ?_
  refine r_sld (j := j + 1) eL_law_345 rfl (by omega) (by omega) ?_
  refine r_callVi1 eL_law_346 lL_40 (Or.inl ⟨_, _, _, rfl, rfl, rfl⟩) (b_lose h (xs (j + 1))) (by omega) (Nat.le_of_ble_eq_true rfl) (fun r1 h1 hq => ?_)
  obtain ⟨u1, rfl, hM⟩ := hq
  refine r_aload_n eL_law_349 rfl rfl ?_
  refine r_aload_n eL_law_350 rfl rfl ?_
  refine r_iload_n eL_law_351 rfl rfl ?_
  refine n_iconst 1 eL_law_352 rfl ?_
  refine n_add eL_law_353 ?_
  refine r_sld (j := j + 1) eL_law_354 rfl (by omega) (by omega) ?_
  refine r_callVi1 eL_law_355 lL_43 (Or.inl ⟨_, _, _, rfl, rfl, rfl⟩) (hM) (by omega) (Nat.le_of_ble_eq_true rfl) (fun r1 h1 hq => ?_)
  obtain ⟨rfl, t1, rfl, hi⟩ := hq
  refine r_icmp_eq eL_law_358 (fun hc358 => ?_) (fun hc358 => absurd hc358 (fun z => z rfl))
  exact kk _ _ hi
set_option maxHeartbeats 1000000 in
set_option maxRecDepth 100000 in
theorem zlw_watch {t : zMod} {u : zCls} {L j d : Nat} {xs : Nat → Int32} {Q : Option Int32 → List zC → Prop} (h : zINV t u) (hj : j + 4 ≤ L) (hL : L ≤ 2048) (hd : 62 ≤ d) (kk : ∀ (t1 : zMod) (u1 : zCls), zINV t1 u1 → Rq mL_law d (some (L, xs)) 875 [.ref 999, .ref 11, .ref 0, .int (nI j)] [] (hA t1 u1) Q) : Rq mL_law d (some (L, xs)) 363 [.ref 999, .ref 11, .ref 0, .int (nI j)] [] (hA t u) Q := by
  refine r_aload_n eL_law_363 rfl rfl ?_
  refine r_aload_n eL_law_364 rfl rfl ?_
  refine r_iload_n eL_law_365 rfl rfl ?_
  refine n_iconst 1 eL_law_366 rfl ?_
  refine n_add eL_law_367 ?_
  refine r_sld (j := j + 1) eL_law_368 rfl (by omega) (by omega) ?_
  refine r_callVi1 eL_law_369 lL_44 (Or.inl ⟨_, _, _, rfl, rfl, rfl⟩) (b_watch h (xs (j + 1))) (by omega) (Nat.le_of_ble_eq_true rfl) (fun r1 h1 hq => ?_)
  obtain ⟨u1, rfl, hM⟩ := hq
  refine r_aload_n eL_law_372 rfl rfl ?_
  refine r_aload_n eL_law_373 rfl rfl ?_
  refine r_iload_n eL_law_374 rfl rfl ?_
  refine n_iconst 1 eL_law_375 rfl ?_
  refine n_add eL_law_376 ?_
  refine r_sld (j := j + 1) eL_law_377 rfl (by omega) (by omega) ?_
  refine r_callVi1 eL_law_378 lL_47 (Or.inl ⟨_, _, _, rfl, rfl, rfl⟩) (hM) (by omega) (Nat.le_of_ble_eq_true rfl) (fun r1 h1 hq => ?_)
  obtain ⟨rfl, t1, rfl, hi⟩ := hq
  refine r_icmp_eq eL_law_381 (fun hc381 => ?_) (fun hc381 => absurd hc381 (fun z => z rfl))
  exact kk _ _ hi
set_option maxHeartbeats 1000000 in
set_option maxRecDepth 100000 in
theorem zlw_wake {t : zMod} {u : zCls} {L j d : Nat} {xs : Nat → Int32} {Q : Option Int32 → List zC → Prop} (h : zINV t u) (hj : j + 4 ≤ L) (hL : L ≤ 2048) (hd : 62 ≤ d) (kk : ∀ (t1 : zMod) (u1 : zCls), zINV t1 u1 → Rq mL_law d (some (L, xs)) 875 [.ref 999, .ref 11, .ref 0, .int (nI j)] [] (hA t1 u1) Q) : Rq mL_law d (some (L, xs)) 386 [.ref 999, .ref 11, .ref 0, .int (nI j)] [] (hA t u) Q := by
  refine r_aload_n eL_law_386 rfl rfl ?_
  refine r_aload_n eL_law_387 rfl rfl ?_
  refine r_iload_n eL_law_388 rfl rfl ?_
  refine n_iconst 1 eL_law_389 rfl ?_
  refine n_add eL_law_390 ?_
  refine r_sld (j := j + 1) eL_law_391 rfl (by omega) (by omega) ?_
  refine r_aload_n eL_law_392 rfl rfl ?_
  refine r_iload_n eL_law_393 rfl rfl ?_
  refine n_iconst 2 eL_law_394 rfl ?_
  refine n_add eL_law_395 ?_
  refine r_sld (j := j + 2) eL_law_396 rfl (by omega) (by omega) ?_
  refine r_callVi2 eL_law_397 lL_48 (Or.inl ⟨_, _, _, rfl, rfl, rfl⟩) (b_wake h (xs (j + 1)) (xs (j + 2))) (by omega) (Nat.le_of_ble_eq_true rfl) (fun r1 h1 hq => ?_)
  obtain ⟨u1, rfl, hM⟩ := hq
  refine r_aload_n eL_law_400 rfl rfl ?_
  refine r_aload_n eL_law_401 rfl rfl ?_
  refine r_iload_n eL_law_402 rfl rfl ?_
  refine n_iconst 1 eL_law_403 rfl ?_
  refine n_add eL_law_404 ?_
  refine r_sld (j := j + 1) eL_law_405 rfl (by omega) (by omega) ?_
  refine r_aload_n eL_law_406 rfl rfl ?_
  refine r_iload_n eL_law_407 rfl rfl ?_
  refine n_iconst 2 eL_law_408 rfl ?_
  refine n_add eL_law_409 ?_
  refine r_sld (j := j + 2) eL_law_410 rfl (by omega) (by omega) ?_
  refine r_callVi2 eL_law_411 lL_51 (Or.inl ⟨_, _, _, rfl, rfl, rfl⟩) (hM) (by omega) (Nat.le_of_ble_eq_true rfl) (fun r1 h1 hq => ?_)
  obtain ⟨rfl, t1, rfl, hi⟩ := hq
  refine r_icmp_eq eL_law_414 (fun hc414 => ?_) (fun hc414 => absurd hc414 (fun z => z rfl))
  exact kk _ _ hi
set_option maxHeartbeats 1000000 in
set_option maxRecDepth 100000 in
theorem zlw_walk {t : zMod} {u : zCls} {L j d : Nat} {xs : Nat → Int32} {Q : Option Int32 → List zC → Prop} (h : zINV t u) (hj : j + 4 ≤ L) (hL : L ≤ 2048) (hd : 62 ≤ d) (kk : ∀ (t1 : zMod) (u1 : zCls), zINV t1 u1 → Rq mL_law d (some (L, xs)) 875 [.ref 999, .ref 11, .ref 0, .int (nI j)] [] (hA t1 u1) Q) : Rq mL_law d (some (L, xs)) 419 [.ref 999, .ref 11, .ref 0, .int (nI j)] [] (hA t u) Q := by
  refine r_aload_n eL_law_419 rfl rfl ?_
  refine r_aload_n eL_law_420 rfl rfl ?_
  refine r_iload_n eL_law_421 rfl rfl ?_
  refine n_iconst 1 eL_law_422 rfl ?_
  refine n_add eL_law_423 ?_
  refine r_sld (j := j + 1) eL_law_424 rfl (by omega) (by omega) ?_
  refine r_callVi1 eL_law_425 lL_52 (Or.inl ⟨_, _, _, rfl, rfl, rfl⟩) (b_walk h (xs (j + 1))) (by omega) (Nat.le_of_ble_eq_true rfl) (fun r1 h1 hq => ?_)
  obtain ⟨u1, rfl, hM⟩ := hq
  refine r_aload_n eL_law_428 rfl rfl ?_
  refine r_aload_n eL_law_429 rfl rfl ?_
  refine r_iload_n eL_law_430 rfl rfl ?_
  refine n_iconst 1 eL_law_431 rfl ?_
  refine n_add eL_law_432 ?_
  refine r_sld (j := j + 1) eL_law_433 rfl (by omega) (by omega) ?_
  refine r_callVi1 eL_law_434 lL_55 (Or.inl ⟨_, _, _, rfl, rfl, rfl⟩) (hM) (by omega) (Nat.le_of_ble_eq_true rfl) (fun r1 h1 hq => ?_)
  obtain ⟨rfl, t1, rfl, hi⟩ := hq
  refine r_icmp_eq eL_law_437 (fun hc437 => ?_) (fun hc437 => absurd hc437 (fun z => z rfl))
  exact kk _ _ hi
set_option maxHeartbeats 1000000 in
set_option maxRecDepth 100000 in
theorem zlw_out {t : zMod} {u : zCls} {L j d : Nat} {xs : Nat → Int32} {Q : Option Int32 → List zC → Prop} (h : zINV t u) (hj : j + 4 ≤ L) (hL : L ≤ 2048) (hd : 62 ≤ d) (kk : ∀ (t1 : zMod) (u1 : zCls), zINV t1 u1 → Rq mL_law d (some (L, xs)) 875 [.ref 999, .ref 11, .ref 0, .int (nI j)] [] (hA t1 u1) Q) : Rq mL_law d (some (L, xs)) 442 [.ref 999, .ref 11, .ref 0, .int (nI j)] [] (hA t u) Q := by
  refine r_aload_n eL_law_442 rfl rfl ?_
  refine r_aload_n eL_law_443 rfl rfl ?_
  refine r_iload_n eL_law_444 rfl rfl ?_
  refine n_iconst 1 eL_law_445 rfl ?_
  refine n_add eL_law_446 ?_
  refine r_sld (j := j + 1) eL_law_447 rfl (by omega) (by omega) ?_
  refine r_callVi1 eL_law_448 lL_56 (Or.inl ⟨_, _, _, rfl, rfl, rfl⟩) (b_out h (xs (j + 1))) (by omega) (Nat.le_of_ble_eq_true rfl) (fun r1 h1 hq => ?_)
  obtain ⟨u1, rfl, hM⟩ := hq
  refine r_aload_n eL_law_451 rfl rfl ?_
  refine r_aload_n eL_law_452 rfl rfl ?_
  refine r_iload_n eL_law_453 rfl rfl ?_
  refine n_iconst 1 eL_law_454 rfl ?_
  refine n_add eL_law_455 ?_
  refine r_sld (j := j + 1) eL_law_456 rfl (by omega) (by omega) ?_
  refine r_callVi1 eL_law_457 lL_59 (Or.inl ⟨_, _, _, rfl, rfl, rfl⟩) (hM) (by omega) (Nat.le_of_ble_eq_true rfl) (fun r1 h1 hq => ?_)
  obtain ⟨rfl, t1, rfl, hi⟩ := hq
  refine r_icmp_eq eL_law_460 (fun hc460 => ?_) (fun hc460 => absurd hc460 (fun z => z rfl))
  exact kk _ _ hi
set_option maxHeartbeats 1000000 in
set_option maxRecDepth 100000 in
theorem zlw_all {t : zMod} {u : zCls} {L j d : Nat} {xs : Nat → Int32} {Q : Option Int32 → List zC → Prop} (h : zINV t u) (hj : j + 4 ≤ L) (hL : L ≤ 2048) (hd : 62 ≤ d) (kk : ∀ (t1 : zMod) (u1 : zCls), zINV t1 u1 → Rq mL_law d (some (L, xs)) 875 [.ref 999, .ref 11, .ref 0, .int (nI j)] [] (hA t1 u1) Q) : Rq mL_law d (some (L, xs)) 465 [.ref 999, .ref 11, .ref 0, .int (nI j)] [] (hA t u) Q := by
  refine r_aload_n eL_law_465 rfl rfl ?_
  refine r_callVi0 eL_law_466 lL_60 (Or.inl ⟨_, _, _, rfl, rfl, rfl⟩) (b_all h ) (by omega) (Nat.le_of_ble_eq_true rfl) (fun r1 h1 hq => ?_)
  obtain ⟨u1, rfl, hM⟩ := hq
  refine r_aload_n eL_law_469 rfl rfl ?_
  refine r_callVi0 eL_law_470 lL_63 (Or.inl ⟨_, _, _, rfl, rfl, rfl⟩) (hM) (by omega) (Nat.le_of_ble_eq_true rfl) (fun r1 h1 hq => ?_)
  obtain ⟨rfl, t1, rfl, hi⟩ := hq
  refine r_icmp_eq eL_law_473 (fun hc473 => ?_) (fun hc473 => absurd hc473 (fun z => z rfl))
  exact kk _ _ hi
set_option maxHeartbeats 1000000 in
set_option maxRecDepth 100000 in
theorem zlw_late {t : zMod} {u : zCls} {L j d : Nat} {xs : Nat → Int32} {Q : Option Int32 → List zC → Prop} (h : zINV t u) (hj : j + 4 ≤ L) (hL : L ≤ 2048) (hd : 62 ≤ d) (kk : ∀ (t1 : zMod) (u1 : zCls), zINV t1 u1 → Rq mL_law d (some (L, xs)) 875 [.ref 999, .ref 11, .ref 0, .int (nI j)] [] (hA t1 u1) Q) : Rq mL_law d (some (L, xs)) 478 [.ref 999, .ref 11, .ref 0, .int (nI j)] [] (hA t u) Q := by
  refine r_aload_n eL_law_478 rfl rfl ?_
  refine r_callVi0 eL_law_479 lL_64 (Or.inl ⟨_, _, _, rfl, rfl, rfl⟩) (b_late h ) (by omega) (Nat.le_of_ble_eq_true rfl) (fun r1 h1 hq => ?_)
  obtain ⟨u1, rfl, hM⟩ := hq
  refine r_aload_n eL_law_482 rfl rfl ?_
  refine r_callVi0 eL_law_483 lL_67 (Or.inl ⟨_, _, _, rfl, rfl, rfl⟩) (hM) (by omega) (Nat.le_of_ble_eq_true rfl) (fun r1 h1 hq => ?_)
  obtain ⟨rfl, t1, rfl, hi⟩ := hq
  refine r_icmp_eq eL_law_486 (fun hc486 => ?_) (fun hc486 => absurd hc486 (fun z => z rfl))
  exact kk _ _ hi
set_option maxHeartbeats 1000000 in
set_option maxRecDepth 100000 in
theorem zlw_by {t : zMod} {u : zCls} {L j d : Nat} {xs : Nat → Int32} {Q : Option Int32 → List zC → Prop} (h : zINV t u) (hj : j + 4 ≤ L) (hL : L ≤ 2048) (hd : 62 ≤ d) (kk : ∀ (t1 : zMod) (u1 : zCls), zINV t1 u1 → Rq mL_law d (some (L, xs)) 875 [.ref 999, .ref 11, .ref 0, .int (nI j)] [] (hA t1 u1) Q) : Rq mL_law d (some (L, xs)) 491 [.ref 999, .ref 11, .ref 0, .int (nI j)] [] (hA t u) Q := by
  refine r_aload_n eL_law_491 rfl rfl ?_
  refine r_aload_n eL_law_492 rfl rfl ?_
  refine r_iload_n eL_law_493 rfl rfl ?_
  refine n_iconst 1 eL_law_494 rfl ?_
  refine n_add eL_law_495 ?_
  refine r_sld (j := j + 1) eL_law_496 rfl (by omega) (by omega) ?_
  refine r_callVi1 eL_law_497 lL_68 (Or.inl ⟨_, _, _, rfl, rfl, rfl⟩) (b_by h (xs (j + 1))) (by omega) (Nat.le_of_ble_eq_true rfl) (fun r1 h1 hq => ?_)
  obtain ⟨u1, rfl, hM⟩ := hq
  refine r_aload_n eL_law_500 rfl rfl ?_
  refine r_aload_n eL_law_501 rfl rfl ?_
  refine r_iload_n eL_law_502 rfl rfl ?_
  refine n_iconst 1 eL_law_503 rfl ?_
  refine n_add eL_law_504 ?_
  refine r_sld (j := j + 1) eL_law_505 rfl (by omega) (by omega) ?_
  refine r_callVi1 eL_law_506 lL_71 (Or.inl ⟨_, _, _, rfl, rfl, rfl⟩) (hM) (by omega) (Nat.le_of_ble_eq_true rfl) (fun r1 h1 hq => ?_)
  obtain ⟨rfl, t1, rfl, hi⟩ := hq
  refine r_icmp_eq eL_law_509 (fun hc509 => ?_) (fun hc509 => absurd hc509 (fun z => z rfl))
  exact kk _ _ hi
set_option maxHeartbeats 1000000 in
set_option maxRecDepth 100000 in
theorem zlw_fewest {t : zMod} {u : zCls} {L j d : Nat} {xs : Nat → Int32} {Q : Option Int32 → List zC → Prop} (h : zINV t u) (hj : j + 4 ≤ L) (hL : L ≤ 2048) (hd : 62 ≤ d) (kk : ∀ (t1 : zMod) (u1 : zCls), zINV t1 u1 → Rq mL_law d (some (L, xs)) 875 [.ref 999, .ref 11, .ref 0, .int (nI j)] [] (hA t1 u1) Q) : Rq mL_law d (some (L, xs)) 514 [.ref 999, .ref 11, .ref 0, .int (nI j)] [] (hA t u) Q := by
  refine r_aload_n eL_law_514 rfl rfl ?_
  refine r_aload_n eL_law_515 rfl rfl ?_
  refine r_iload_n eL_law_516 rfl rfl ?_
  refine n_iconst 1 eL_law_517 rfl ?_
  refine n_add eL_law_518 ?_
  refine r_sld (j := j + 1) eL_law_519 rfl (by omega) (by omega) ?_
  refine r_callVi1 eL_law_520 lL_72 (Or.inl ⟨_, _, _, rfl, rfl, rfl⟩) (b_fewest h (xs (j + 1))) (by omega) (Nat.le_of_ble_eq_true rfl) (fun r1 h1 hq => ?_)
  obtain ⟨u1, rfl, hM⟩ := hq
  refine r_aload_n eL_law_523 rfl rfl ?_
  refine r_aload_n eL_law_524 rfl rfl ?_
  refine r_iload_n eL_law_525 rfl rfl ?_
  refine n_iconst 1 eL_law_526 rfl ?_
  refine n_add eL_law_527 ?_
  refine r_sld (j := j + 1) eL_law_528 rfl (by omega) (by omega) ?_
  refine r_callVi1 eL_law_529 lL_75 (Or.inl ⟨_, _, _, rfl, rfl, rfl⟩) (hM) (by omega) (Nat.le_of_ble_eq_true rfl) (fun r1 h1 hq => ?_)
  obtain ⟨rfl, t1, rfl, hi⟩ := hq
  refine r_icmp_eq eL_law_532 (fun hc532 => ?_) (fun hc532 => absurd hc532 (fun z => z rfl))
  exact kk _ _ hi
set_option maxHeartbeats 1000000 in
set_option maxRecDepth 100000 in
theorem zlw_soonest {t : zMod} {u : zCls} {L j d : Nat} {xs : Nat → Int32} {Q : Option Int32 → List zC → Prop} (h : zINV t u) (hj : j + 4 ≤ L) (hL : L ≤ 2048) (hd : 62 ≤ d) (kk : ∀ (t1 : zMod) (u1 : zCls), zINV t1 u1 → Rq mL_law d (some (L, xs)) 875 [.ref 999, .ref 11, .ref 0, .int (nI j)] [] (hA t1 u1) Q) : Rq mL_law d (some (L, xs)) 537 [.ref 999, .ref 11, .ref 0, .int (nI j)] [] (hA t u) Q := by
  refine r_aload_n eL_law_537 rfl rfl ?_
  refine r_aload_n eL_law_538 rfl rfl ?_
  refine r_iload_n eL_law_539 rfl rfl ?_
  refine n_iconst 1 eL_law_540 rfl ?_
  refine n_add eL_law_541 ?_
  refine r_sld (j := j + 1) eL_law_542 rfl (by omega) (by omega) ?_
  refine r_callVi1 eL_law_543 lL_76 (Or.inl ⟨_, _, _, rfl, rfl, rfl⟩) (b_soonest h (xs (j + 1))) (by omega) (Nat.le_of_ble_eq_true rfl) (fun r1 h1 hq => ?_)
  obtain ⟨u1, rfl, hM⟩ := hq
  refine r_aload_n eL_law_546 rfl rfl ?_
  refine r_aload_n eL_law_547 rfl rfl ?_
  refine r_iload_n eL_law_548 rfl rfl ?_
  refine n_iconst 1 eL_law_549 rfl ?_
  refine n_add eL_law_550 ?_
  refine r_sld (j := j + 1) eL_law_551 rfl (by omega) (by omega) ?_
  refine r_callVi1 eL_law_552 lL_79 (Or.inl ⟨_, _, _, rfl, rfl, rfl⟩) (hM) (by omega) (Nat.le_of_ble_eq_true rfl) (fun r1 h1 hq => ?_)
  obtain ⟨rfl, t1, rfl, hi⟩ := hq
  refine r_icmp_eq eL_law_555 (fun hc555 => ?_) (fun hc555 => absurd hc555 (fun z => z rfl))
  exact kk _ _ hi
set_option maxHeartbeats 1000000 in
set_option maxRecDepth 100000 in
theorem zlw_copy {t : zMod} {u : zCls} {L j d : Nat} {xs : Nat → Int32} {Q : Option Int32 → List zC → Prop} (h : zINV t u) (hj : j + 4 ≤ L) (hL : L ≤ 2048) (hd : 62 ≤ d) (kk : ∀ (t1 : zMod) (u1 : zCls), zINV t1 u1 → Rq mL_law d (some (L, xs)) 875 [.ref 999, .ref 11, .ref 0, .int (nI j)] [] (hA t1 u1) Q) : Rq mL_law d (some (L, xs)) 560 [.ref 999, .ref 11, .ref 0, .int (nI j)] [] (hA t u) Q := by
  refine r_aload_n eL_law_560 rfl rfl ?_
  refine r_callVi0 eL_law_561 lL_80 (Or.inl ⟨_, _, _, rfl, rfl, rfl⟩) (b_copy h ) (by omega) (Nat.le_of_ble_eq_true rfl) (fun r1 h1 hq => ?_)
  obtain ⟨u1, rfl, hM⟩ := hq
  refine r_aload_n eL_law_564 rfl rfl ?_
  refine r_callVi0 eL_law_565 lL_83 (Or.inl ⟨_, _, _, rfl, rfl, rfl⟩) (hM) (by omega) (Nat.le_of_ble_eq_true rfl) (fun r1 h1 hq => ?_)
  obtain ⟨rfl, t1, rfl, hi⟩ := hq
  refine r_icmp_eq eL_law_568 (fun hc568 => ?_) (fun hc568 => absurd hc568 (fun z => z rfl))
  exact kk _ _ hi
set_option maxHeartbeats 1000000 in
set_option maxRecDepth 100000 in
theorem zlw_copies {t : zMod} {u : zCls} {L j d : Nat} {xs : Nat → Int32} {Q : Option Int32 → List zC → Prop} (h : zINV t u) (hj : j + 4 ≤ L) (hL : L ≤ 2048) (hd : 62 ≤ d) (kk : ∀ (t1 : zMod) (u1 : zCls), zINV t1 u1 → Rq mL_law d (some (L, xs)) 875 [.ref 999, .ref 11, .ref 0, .int (nI j)] [] (hA t1 u1) Q) : Rq mL_law d (some (L, xs)) 573 [.ref 999, .ref 11, .ref 0, .int (nI j)] [] (hA t u) Q := by
  refine r_aload_n eL_law_573 rfl rfl ?_
  refine r_aload_n eL_law_574 rfl rfl ?_
  refine r_iload_n eL_law_575 rfl rfl ?_
  refine n_iconst 1 eL_law_576 rfl ?_
  refine n_add eL_law_577 ?_
  refine r_sld (j := j + 1) eL_law_578 rfl (by omega) (by omega) ?_
  refine r_callVi1 eL_law_579 lL_84 (Or.inl ⟨_, _, _, rfl, rfl, rfl⟩) (b_copies h (xs (j + 1))) (by omega) (Nat.le_of_ble_eq_true rfl) (fun r1 h1 hq => ?_)
  obtain ⟨u1, rfl, hM⟩ := hq
  refine r_aload_n eL_law_582 rfl rfl ?_
  refine r_aload_n eL_law_583 rfl rfl ?_
  refine r_iload_n eL_law_584 rfl rfl ?_
  refine n_iconst 1 eL_law_585 rfl ?_
  refine n_add eL_law_586 ?_
  refine r_sld (j := j + 1) eL_law_587 rfl (by omega) (by omega) ?_
  refine r_callVi1 eL_law_588 lL_87 (Or.inl ⟨_, _, _, rfl, rfl, rfl⟩) (hM) (by omega) (Nat.le_of_ble_eq_true rfl) (fun r1 h1 hq => ?_)
  obtain ⟨rfl, t1, rfl, hi⟩ := hq
  refine r_icmp_eq eL_law_591 (fun hc591 => ?_) (fun hc591 => absurd hc591 (fun z => z rfl))
  exact kk _ _ hi
set_option maxHeartbeats 1000000 in
set_option maxRecDepth 100000 in
theorem zlw_rings {t : zMod} {u : zCls} {L j d : Nat} {xs : Nat → Int32} {Q : Option Int32 → List zC → Prop} (h : zINV t u) (hj : j + 4 ≤ L) (hL : L ≤ 2048) (hd : 62 ≤ d) (kk : ∀ (t1 : zMod) (u1 : zCls), zINV t1 u1 → Rq mL_law d (some (L, xs)) 875 [.ref 999, .ref 11, .ref 0, .int (nI j)] [] (hA t1 u1) Q) : Rq mL_law d (some (L, xs)) 596 [.ref 999, .ref 11, .ref 0, .int (nI j)] [] (hA t u) Q := by
  refine r_aload_n eL_law_596 rfl rfl ?_
  refine r_callVi0 eL_law_597 lL_88 (Or.inl ⟨_, _, _, rfl, rfl, rfl⟩) (b_rings h ) (by omega) (Nat.le_of_ble_eq_true rfl) (fun r1 h1 hq => ?_)
  obtain ⟨u1, rfl, hM⟩ := hq
  refine r_aload_n eL_law_600 rfl rfl ?_
  refine r_callVi0 eL_law_601 lL_91 (Or.inl ⟨_, _, _, rfl, rfl, rfl⟩) (hM) (by omega) (Nat.le_of_ble_eq_true rfl) (fun r1 h1 hq => ?_)
  obtain ⟨rfl, t1, rfl, hi⟩ := hq
  refine r_icmp_eq eL_law_604 (fun hc604 => ?_) (fun hc604 => absurd hc604 (fun z => z rfl))
  exact kk _ _ hi
set_option maxHeartbeats 1000000 in
set_option maxRecDepth 100000 in
theorem zlw_swap {t : zMod} {u : zCls} {L j d : Nat} {xs : Nat → Int32} {Q : Option Int32 → List zC → Prop} (h : zINV t u) (hj : j + 4 ≤ L) (hL : L ≤ 2048) (hd : 62 ≤ d) (kk : ∀ (t1 : zMod) (u1 : zCls), zINV t1 u1 → Rq mL_law d (some (L, xs)) 875 [.ref 999, .ref 11, .ref 0, .int (nI j)] [] (hA t1 u1) Q) : Rq mL_law d (some (L, xs)) 609 [.ref 999, .ref 11, .ref 0, .int (nI j)] [] (hA t u) Q := by
  refine r_aload_n eL_law_609 rfl rfl ?_
  refine r_callVi0 eL_law_610 lL_92 (Or.inl ⟨_, _, _, rfl, rfl, rfl⟩) (b_swap h ) (by omega) (Nat.le_of_ble_eq_true rfl) (fun r1 h1 hq => ?_)
  obtain ⟨u1, rfl, hM⟩ := hq
  refine r_aload_n eL_law_613 rfl rfl ?_
  refine r_callVi0 eL_law_614 lL_95 (Or.inl ⟨_, _, _, rfl, rfl, rfl⟩) (hM) (by omega) (Nat.le_of_ble_eq_true rfl) (fun r1 h1 hq => ?_)
  obtain ⟨rfl, t1, rfl, hi⟩ := hq
  refine r_icmp_eq eL_law_617 (fun hc617 => ?_) (fun hc617 => absurd hc617 (fun z => z rfl))
  exact kk _ _ hi
set_option maxHeartbeats 1000000 in
set_option maxRecDepth 100000 in
theorem zlw_gone {t : zMod} {u : zCls} {L j d : Nat} {xs : Nat → Int32} {Q : Option Int32 → List zC → Prop} (h : zINV t u) (hj : j + 4 ≤ L) (hL : L ≤ 2048) (hd : 62 ≤ d) (kk : ∀ (t1 : zMod) (u1 : zCls), zINV t1 u1 → Rq mL_law d (some (L, xs)) 875 [.ref 999, .ref 11, .ref 0, .int (nI j)] [] (hA t1 u1) Q) : Rq mL_law d (some (L, xs)) 622 [.ref 999, .ref 11, .ref 0, .int (nI j)] [] (hA t u) Q := by
  refine r_aload_n eL_law_622 rfl rfl ?_
  refine r_aload_n eL_law_623 rfl rfl ?_
  refine r_iload_n eL_law_624 rfl rfl ?_
  refine n_iconst 1 eL_law_625 rfl ?_
  refine n_add eL_law_626 ?_
  refine r_sld (j := j + 1) eL_law_627 rfl (by omega) (by omega) ?_
  refine r_callVi1 eL_law_628 lL_96 (Or.inl ⟨_, _, _, rfl, rfl, rfl⟩) (b_gone h (xs (j + 1))) (by omega) (Nat.le_of_ble_eq_true rfl) (fun r1 h1 hq => ?_)
  obtain ⟨u1, rfl, hM⟩ := hq
  refine r_aload_n eL_law_631 rfl rfl ?_
  refine r_aload_n eL_law_632 rfl rfl ?_
  refine r_iload_n eL_law_633 rfl rfl ?_
  refine n_iconst 1 eL_law_634 rfl ?_
  refine n_add eL_law_635 ?_
  refine r_sld (j := j + 1) eL_law_636 rfl (by omega) (by omega) ?_
  refine r_callVi1 eL_law_637 lL_99 (Or.inl ⟨_, _, _, rfl, rfl, rfl⟩) (hM) (by omega) (Nat.le_of_ble_eq_true rfl) (fun r1 h1 hq => ?_)
  obtain ⟨rfl, t1, rfl, hi⟩ := hq
  refine r_icmp_eq eL_law_640 (fun hc640 => ?_) (fun hc640 => absurd hc640 (fun z => z rfl))
  exact kk _ _ hi
set_option maxHeartbeats 1000000 in
set_option maxRecDepth 100000 in
theorem zlw_breaking {t : zMod} {u : zCls} {L j d : Nat} {xs : Nat → Int32} {Q : Option Int32 → List zC → Prop} (h : zINV t u) (hj : j + 4 ≤ L) (hL : L ≤ 2048) (hd : 62 ≤ d) (kk : ∀ (t1 : zMod) (u1 : zCls), zINV t1 u1 → Rq mL_law d (some (L, xs)) 875 [.ref 999, .ref 11, .ref 0, .int (nI j)] [] (hA t1 u1) Q) : Rq mL_law d (some (L, xs)) 645 [.ref 999, .ref 11, .ref 0, .int (nI j)] [] (hA t u) Q := by
  refine r_aload_n eL_law_645 rfl rfl ?_
  refine r_aload_n eL_law_646 rfl rfl ?_
  refine r_iload_n eL_law_647 rfl rfl ?_
  refine n_iconst 1 eL_law_648 rfl ?_
  refine n_add eL_law_649 ?_
  refine r_sld (j := j + 1) eL_law_650 rfl (by omega) (by omega) ?_
  refine r_callVi1 eL_law_651 lL_100 (Or.inl ⟨_, _, _, rfl, rfl, rfl⟩) (b_breaking h (xs (j + 1))) (by omega) (Nat.le_of_ble_eq_true rfl) (fun r1 h1 hq => ?_)
  obtain ⟨u1, rfl, hM⟩ := hq
  refine r_aload_n eL_law_654 rfl rfl ?_
  refine r_aload_n eL_law_655 rfl rfl ?_
  refine r_iload_n eL_law_656 rfl rfl ?_
  refine n_iconst 1 eL_law_657 rfl ?_
  refine n_add eL_law_658 ?_
  refine r_sld (j := j + 1) eL_law_659 rfl (by omega) (by omega) ?_
  refine r_callVi1 eL_law_660 lL_103 (Or.inl ⟨_, _, _, rfl, rfl, rfl⟩) (hM) (by omega) (Nat.le_of_ble_eq_true rfl) (fun r1 h1 hq => ?_)
  obtain ⟨rfl, t1, rfl, hi⟩ := hq
  refine r_icmp_eq eL_law_663 (fun hc663 => ?_) (fun hc663 => absurd hc663 (fun z => z rfl))
  exact kk _ _ hi
set_option maxHeartbeats 1000000 in
set_option maxRecDepth 100000 in
theorem zlw_fire {t : zMod} {u : zCls} {L j d : Nat} {xs : Nat → Int32} {Q : Option Int32 → List zC → Prop} (h : zINV t u) (hj : j + 4 ≤ L) (hL : L ≤ 2048) (hd : 62 ≤ d) (kk : ∀ (t1 : zMod) (u1 : zCls), zINV t1 u1 → Rq mL_law d (some (L, xs)) 875 [.ref 999, .ref 11, .ref 0, .int (nI j)] [] (hA t1 u1) Q) : Rq mL_law d (some (L, xs)) 668 [.ref 999, .ref 11, .ref 0, .int (nI j)] [] (hA t u) Q := by
  refine r_aload_n eL_law_668 rfl rfl ?_
  refine r_aload_n eL_law_669 rfl rfl ?_
  refine r_iload_n eL_law_670 rfl rfl ?_
  refine n_iconst 1 eL_law_671 rfl ?_
  refine n_add eL_law_672 ?_
  refine r_sld (j := j + 1) eL_law_673 rfl (by omega) (by omega) ?_
  refine r_aload_n eL_law_674 rfl rfl ?_
  refine r_iload_n eL_law_675 rfl rfl ?_
  refine n_iconst 2 eL_law_676 rfl ?_
  refine n_add eL_law_677 ?_
  refine r_sld (j := j + 2) eL_law_678 rfl (by omega) (by omega) ?_
  refine r_callVi2 eL_law_679 lL_104 (Or.inl ⟨_, _, _, rfl, rfl, rfl⟩) (b_fire h (xs (j + 1)) (xs (j + 2))) (by omega) (Nat.le_of_ble_eq_true rfl) (fun r1 h1 hq => ?_)
  obtain ⟨u1, rfl, hM⟩ := hq
  refine r_aload_n eL_law_682 rfl rfl ?_
  refine r_aload_n eL_law_683 rfl rfl ?_
  refine r_iload_n eL_law_684 rfl rfl ?_
  refine n_iconst 1 eL_law_685 rfl ?_
  refine n_add eL_law_686 ?_
  refine r_sld (j := j + 1) eL_law_687 rfl (by omega) (by omega) ?_
  refine r_aload_n eL_law_688 rfl rfl ?_
  refine r_iload_n eL_law_689 rfl rfl ?_
  refine n_iconst 2 eL_law_690 rfl ?_
  refine n_add eL_law_691 ?_
  refine r_sld (j := j + 2) eL_law_692 rfl (by omega) (by omega) ?_
  refine r_callVi2 eL_law_693 lL_107 (Or.inl ⟨_, _, _, rfl, rfl, rfl⟩) (hM) (by omega) (Nat.le_of_ble_eq_true rfl) (fun r1 h1 hq => ?_)
  obtain ⟨rfl, t1, rfl, hi⟩ := hq
  refine r_icmp_eq eL_law_696 (fun hc696 => ?_) (fun hc696 => absurd hc696 (fun z => z rfl))
  exact kk _ _ hi
set_option maxHeartbeats 1000000 in
set_option maxRecDepth 100000 in
theorem zlw_lot {t : zMod} {u : zCls} {L j d : Nat} {xs : Nat → Int32} {Q : Option Int32 → List zC → Prop} (h : zINV t u) (hj : j + 4 ≤ L) (hL : L ≤ 2048) (hd : 62 ≤ d) (kk : ∀ (t1 : zMod) (u1 : zCls), zINV t1 u1 → Rq mL_law d (some (L, xs)) 875 [.ref 999, .ref 11, .ref 0, .int (nI j)] [] (hA t1 u1) Q) : Rq mL_law d (some (L, xs)) 701 [.ref 999, .ref 11, .ref 0, .int (nI j)] [] (hA t u) Q := by
  refine r_aload_n eL_law_701 rfl rfl ?_
  refine r_aload_n eL_law_702 rfl rfl ?_
  refine r_iload_n eL_law_703 rfl rfl ?_
  refine n_iconst 1 eL_law_704 rfl ?_
  refine n_add eL_law_705 ?_
  refine r_sld (j := j + 1) eL_law_706 rfl (by omega) (by omega) ?_
  refine r_aload_n eL_law_707 rfl rfl ?_
  refine r_iload_n eL_law_708 rfl rfl ?_
  refine n_iconst 2 eL_law_709 rfl ?_
  refine n_add eL_law_710 ?_
  refine r_sld (j := j + 2) eL_law_711 rfl (by omega) (by omega) ?_
  refine r_aload_n eL_law_712 rfl rfl ?_
  refine r_iload_n eL_law_713 rfl rfl ?_
  refine n_iconst 3 eL_law_714 rfl ?_
  refine n_add eL_law_715 ?_
  refine r_sld (j := j + 3) eL_law_716 rfl (by omega) (by omega) ?_
  refine r_callVi3 eL_law_717 lL_108 (Or.inl ⟨_, _, _, rfl, rfl, rfl⟩) (b_lot h (xs (j + 1)) (xs (j + 2)) (xs (j + 3))) (by omega) (Nat.le_of_ble_eq_true rfl) (fun r1 h1 hq => ?_)
  obtain ⟨u1, rfl, hM⟩ := hq
  refine r_aload_n eL_law_720 rfl rfl ?_
  refine r_aload_n eL_law_721 rfl rfl ?_
  refine r_iload_n eL_law_722 rfl rfl ?_
  refine n_iconst 1 eL_law_723 rfl ?_
  refine n_add eL_law_724 ?_
  refine r_sld (j := j + 1) eL_law_725 rfl (by omega) (by omega) ?_
  refine r_aload_n eL_law_726 rfl rfl ?_
  refine r_iload_n eL_law_727 rfl rfl ?_
  refine n_iconst 2 eL_law_728 rfl ?_
  refine n_add eL_law_729 ?_
  refine r_sld (j := j + 2) eL_law_730 rfl (by omega) (by omega) ?_
  refine r_aload_n eL_law_731 rfl rfl ?_
  refine r_iload_n eL_law_732 rfl rfl ?_
  refine n_iconst 3 eL_law_733 rfl ?_
  refine n_add eL_law_734 ?_
  refine r_sld (j := j + 3) eL_law_735 rfl (by omega) (by omega) ?_
  refine r_callVi3 eL_law_736 lL_112 (Or.inl ⟨_, _, _, rfl, rfl, rfl⟩) (hM) (by omega) (Nat.le_of_ble_eq_true rfl) (fun r1 h1 hq => ?_)
  obtain ⟨rfl, t1, rfl, hi⟩ := hq
  refine r_icmp_eq eL_law_739 (fun hc739 => ?_) (fun hc739 => absurd hc739 (fun z => z rfl))
  exact kk _ _ hi
set_option maxHeartbeats 1000000 in
set_option maxRecDepth 100000 in
theorem zlw_row {t : zMod} {u : zCls} {L j d : Nat} {xs : Nat → Int32} {Q : Option Int32 → List zC → Prop} (h : zINV t u) (hj : j + 4 ≤ L) (hL : L ≤ 2048) (hd : 62 ≤ d) (kk : ∀ (t1 : zMod) (u1 : zCls), zINV t1 u1 → Rq mL_law d (some (L, xs)) 875 [.ref 999, .ref 11, .ref 0, .int (nI j)] [] (hA t1 u1) Q) : Rq mL_law d (some (L, xs)) 744 [.ref 999, .ref 11, .ref 0, .int (nI j)] [] (hA t u) Q := by
  refine r_aload_n eL_law_744 rfl rfl ?_
  refine r_aload_n eL_law_745 rfl rfl ?_
  refine r_iload_n eL_law_746 rfl rfl ?_
  refine n_iconst 1 eL_law_747 rfl ?_
  refine n_add eL_law_748 ?_
  refine r_sld (j := j + 1) eL_law_749 rfl (by omega) (by omega) ?_
  refine r_callVi1 eL_law_750 lL_113 (Or.inl ⟨_, _, _, rfl, rfl, rfl⟩) (b_row h (xs (j + 1))) (by omega) (Nat.le_of_ble_eq_true rfl) (fun r1 h1 hq => ?_)
  obtain ⟨u1, rfl, hM⟩ := hq
  refine r_aload_n eL_law_753 rfl rfl ?_
  refine r_aload_n eL_law_754 rfl rfl ?_
  refine r_iload_n eL_law_755 rfl rfl ?_
  refine n_iconst 1 eL_law_756 rfl ?_
  refine n_add eL_law_757 ?_
  refine r_sld (j := j + 1) eL_law_758 rfl (by omega) (by omega) ?_
  refine r_callVi1 eL_law_759 lL_116 (Or.inl ⟨_, _, _, rfl, rfl, rfl⟩) (hM) (by omega) (Nat.le_of_ble_eq_true rfl) (fun r1 h1 hq => ?_)
  obtain ⟨rfl, t1, rfl, hi⟩ := hq
  refine r_icmp_eq eL_law_762 (fun hc762 => ?_) (fun hc762 => absurd hc762 (fun z => z rfl))
  exact kk _ _ hi
set_option maxHeartbeats 1000000 in
set_option maxRecDepth 100000 in
theorem zlw_overslept {t : zMod} {u : zCls} {L j d : Nat} {xs : Nat → Int32} {Q : Option Int32 → List zC → Prop} (h : zINV t u) (hj : j + 4 ≤ L) (hL : L ≤ 2048) (hd : 62 ≤ d) (kk : ∀ (t1 : zMod) (u1 : zCls), zINV t1 u1 → Rq mL_law d (some (L, xs)) 875 [.ref 999, .ref 11, .ref 0, .int (nI j)] [] (hA t1 u1) Q) : Rq mL_law d (some (L, xs)) 767 [.ref 999, .ref 11, .ref 0, .int (nI j)] [] (hA t u) Q := by
  refine r_aload_n eL_law_767 rfl rfl ?_
  refine r_callVi0 eL_law_768 lL_117 (Or.inl ⟨_, _, _, rfl, rfl, rfl⟩) (b_overslept h ) (by omega) (Nat.le_of_ble_eq_true rfl) (fun r1 h1 hq => ?_)
  obtain ⟨u1, rfl, hM⟩ := hq
  refine r_aload_n eL_law_771 rfl rfl ?_
  refine r_callVi0 eL_law_772 lL_120 (Or.inl ⟨_, _, _, rfl, rfl, rfl⟩) (hM) (by omega) (Nat.le_of_ble_eq_true rfl) (fun r1 h1 hq => ?_)
  obtain ⟨rfl, t1, rfl, hi⟩ := hq
  refine r_icmp_eq eL_law_775 (fun hc775 => ?_) (fun hc775 => absurd hc775 (fun z => z rfl))
  exact kk _ _ hi
set_option maxHeartbeats 1000000 in
set_option maxRecDepth 100000 in
theorem zlw_judge {t : zMod} {u : zCls} {L j d : Nat} {xs : Nat → Int32} {Q : Option Int32 → List zC → Prop} (h : zINV t u) (hj : j + 4 ≤ L) (hL : L ≤ 2048) (hd : 62 ≤ d) (kk : ∀ (t1 : zMod) (u1 : zCls), zINV t1 u1 → Rq mL_law d (some (L, xs)) 875 [.ref 999, .ref 11, .ref 0, .int (nI j)] [] (hA t1 u1) Q) : Rq mL_law d (some (L, xs)) 780 [.ref 999, .ref 11, .ref 0, .int (nI j)] [] (hA t u) Q := by
  refine r_aload_n eL_law_780 rfl rfl ?_
  refine r_callVi0 eL_law_781 lL_121 (Or.inl ⟨_, _, _, rfl, rfl, rfl⟩) (b_judge h ) (by omega) (Nat.le_of_ble_eq_true rfl) (fun r1 h1 hq => ?_)
  obtain ⟨u1, rfl, hM⟩ := hq
  refine r_aload_n eL_law_784 rfl rfl ?_
  refine r_callVi0 eL_law_785 lL_124 (Or.inl ⟨_, _, _, rfl, rfl, rfl⟩) (hM) (by omega) (Nat.le_of_ble_eq_true rfl) (fun r1 h1 hq => ?_)
  obtain ⟨rfl, t1, rfl, hi⟩ := hq
  refine r_icmp_eq eL_law_788 (fun hc788 => ?_) (fun hc788 => absurd hc788 (fun z => z rfl))
  exact kk _ _ hi
set_option maxHeartbeats 1000000 in
set_option maxRecDepth 100000 in
theorem zlw_seeds {t : zMod} {u : zCls} {L j d : Nat} {xs : Nat → Int32} {Q : Option Int32 → List zC → Prop} (h : zINV t u) (hj : j + 4 ≤ L) (hL : L ≤ 2048) (hd : 62 ≤ d) (kk : ∀ (t1 : zMod) (u1 : zCls), zINV t1 u1 → Rq mL_law d (some (L, xs)) 875 [.ref 999, .ref 11, .ref 0, .int (nI j)] [] (hA t1 u1) Q) : Rq mL_law d (some (L, xs)) 793 [.ref 999, .ref 11, .ref 0, .int (nI j)] [] (hA t u) Q := by
  refine r_aload_n eL_law_793 rfl rfl ?_
  refine r_aload_n eL_law_794 rfl rfl ?_
  refine r_iload_n eL_law_795 rfl rfl ?_
  refine n_iconst 1 eL_law_796 rfl ?_
  refine n_add eL_law_797 ?_
  refine r_sld (j := j + 1) eL_law_798 rfl (by omega) (by omega) ?_
  refine r_aload_n eL_law_799 rfl rfl ?_
  refine r_iload_n eL_law_800 rfl rfl ?_
  refine n_iconst 2 eL_law_801 rfl ?_
  refine n_add eL_law_802 ?_
  refine r_sld (j := j + 2) eL_law_803 rfl (by omega) (by omega) ?_
  refine r_callVi2 eL_law_804 lL_125 (Or.inl ⟨_, _, _, rfl, rfl, rfl⟩) (b_seeds h (xs (j + 1)) (xs (j + 2))) (by omega) (Nat.le_of_ble_eq_true rfl) (fun r1 h1 hq => ?_)
  obtain ⟨u1, rfl, hM⟩ := hq
  refine r_aload_n eL_law_807 rfl rfl ?_
  refine r_aload_n eL_law_808 rfl rfl ?_
  refine r_iload_n eL_law_809 rfl rfl ?_
  refine n_iconst 1 eL_law_810 rfl ?_
  refine n_add eL_law_811 ?_
  refine r_sld (j := j + 1) eL_law_812 rfl (by omega) (by omega) ?_
  refine r_aload_n eL_law_813 rfl rfl ?_
  refine r_iload_n eL_law_814 rfl rfl ?_
  refine n_iconst 2 eL_law_815 rfl ?_
  refine n_add eL_law_816 ?_
  refine r_sld (j := j + 2) eL_law_817 rfl (by omega) (by omega) ?_
  refine r_callVi2 eL_law_818 lL_128 (Or.inl ⟨_, _, _, rfl, rfl, rfl⟩) (hM) (by omega) (Nat.le_of_ble_eq_true rfl) (fun r1 h1 hq => ?_)
  obtain ⟨rfl, t1, rfl, hi⟩ := hq
  refine r_icmp_eq eL_law_821 (fun hc821 => ?_) (fun hc821 => absurd hc821 (fun z => z rfl))
  exact kk _ _ hi
set_option maxHeartbeats 1000000 in
set_option maxRecDepth 100000 in
theorem zlw_image {t : zMod} {u : zCls} {L j d : Nat} {xs : Nat → Int32} {Q : Option Int32 → List zC → Prop} (h : zINV t u) (hj : j + 4 ≤ L) (hL : L ≤ 2048) (hd : 62 ≤ d) (kk : ∀ (t1 : zMod) (u1 : zCls), zINV t1 u1 → Rq mL_law d (some (L, xs)) 875 [.ref 999, .ref 11, .ref 0, .int (nI j)] [] (hA t1 u1) Q) : Rq mL_law d (some (L, xs)) 826 [.ref 999, .ref 11, .ref 0, .int (nI j)] [] (hA t u) Q := by
  refine r_aload_n eL_law_826 rfl rfl ?_
  refine r_callVi0 eL_law_827 lL_129 (Or.inl ⟨_, _, _, rfl, rfl, rfl⟩) (b_image h ) (by omega) (Nat.le_of_ble_eq_true rfl) (fun r1 h1 hq => ?_)
  obtain ⟨u1, rfl, hM⟩ := hq
  refine r_aload_n eL_law_830 rfl rfl ?_
  refine r_callVi0 eL_law_831 lL_132 (Or.inl ⟨_, _, _, rfl, rfl, rfl⟩) (hM) (by omega) (Nat.le_of_ble_eq_true rfl) (fun r1 h1 hq => ?_)
  obtain ⟨rfl, t1, rfl, hi⟩ := hq
  refine r_icmp_eq eL_law_834 (fun hc834 => ?_) (fun hc834 => absurd hc834 (fun z => z rfl))
  exact kk _ _ hi
set_option maxHeartbeats 1000000 in
set_option maxRecDepth 100000 in
theorem zlw_on {t : zMod} {u : zCls} {L j d : Nat} {xs : Nat → Int32} {Q : Option Int32 → List zC → Prop} (h : zINV t u) (hj : j + 4 ≤ L) (hL : L ≤ 2048) (hd : 62 ≤ d) (kk : ∀ (t1 : zMod) (u1 : zCls), zINV t1 u1 → Rq mL_law d (some (L, xs)) 875 [.ref 999, .ref 11, .ref 0, .int (nI j)] [] (hA t1 u1) Q) : Rq mL_law d (some (L, xs)) 839 [.ref 999, .ref 11, .ref 0, .int (nI j)] [] (hA t u) Q := by
  refine r_aload_n eL_law_839 rfl rfl ?_
  refine r_callVi0 eL_law_840 lL_133 (Or.inl ⟨_, _, _, rfl, rfl, rfl⟩) (b_on h ) (by omega) (Nat.le_of_ble_eq_true rfl) (fun r1 h1 hq => ?_)
  obtain ⟨u1, rfl, hM⟩ := hq
  refine r_aload_n eL_law_843 rfl rfl ?_
  refine r_callVi0 eL_law_844 lL_136 (Or.inl ⟨_, _, _, rfl, rfl, rfl⟩) (hM) (by omega) (Nat.le_of_ble_eq_true rfl) (fun r1 h1 hq => ?_)
  obtain ⟨rfl, t1, rfl, hi⟩ := hq
  refine r_icmp_eq eL_law_847 (fun hc847 => ?_) (fun hc847 => absurd hc847 (fun z => z rfl))
  exact kk _ _ hi
set_option maxHeartbeats 1000000 in
set_option maxRecDepth 100000 in
theorem zlw_count {t : zMod} {u : zCls} {L j d : Nat} {xs : Nat → Int32} {Q : Option Int32 → List zC → Prop} (h : zINV t u) (hj : j + 4 ≤ L) (hL : L ≤ 2048) (hd : 62 ≤ d) (kk : ∀ (t1 : zMod) (u1 : zCls), zINV t1 u1 → Rq mL_law d (some (L, xs)) 875 [.ref 999, .ref 11, .ref 0, .int (nI j)] [] (hA t1 u1) Q) : Rq mL_law d (some (L, xs)) 852 [.ref 999, .ref 11, .ref 0, .int (nI j)] [] (hA t u) Q := by
  refine r_aload_n eL_law_852 rfl rfl ?_
  refine r_aload_n eL_law_853 rfl rfl ?_
  refine r_iload_n eL_law_854 rfl rfl ?_
  refine n_iconst 1 eL_law_855 rfl ?_
  refine n_add eL_law_856 ?_
  refine r_sld (j := j + 1) eL_law_857 rfl (by omega) (by omega) ?_
  refine r_callVi1 eL_law_858 lL_137 (Or.inl ⟨_, _, _, rfl, rfl, rfl⟩) (b_count h (xs (j + 1))) (by omega) (Nat.le_of_ble_eq_true rfl) (fun r1 h1 hq => ?_)
  obtain ⟨u1, rfl, hM⟩ := hq
  refine r_aload_n eL_law_861 rfl rfl ?_
  refine r_aload_n eL_law_862 rfl rfl ?_
  refine r_iload_n eL_law_863 rfl rfl ?_
  refine n_iconst 1 eL_law_864 rfl ?_
  refine n_add eL_law_865 ?_
  refine r_sld (j := j + 1) eL_law_866 rfl (by omega) (by omega) ?_
  refine r_callVi1 eL_law_867 lL_140 (Or.inl ⟨_, _, _, rfl, rfl, rfl⟩) (hM) (by omega) (Nat.le_of_ble_eq_true rfl) (fun r1 h1 hq => ?_)
  obtain ⟨rfl, t1, rfl, hi⟩ := hq
  refine r_icmp_eq eL_law_870 (fun hc870 => ?_) (fun hc870 => absurd hc870 (fun z => z rfl))
  exact kk _ _ hi
set_option maxHeartbeats 1000000 in
set_option maxRecDepth 100000 in
theorem zlw_turn {t : zMod} {u : zCls} {L j d : Nat} {xs : Nat → Int32} {Q : Option Int32 → List zC → Prop} (h : zINV t u) (hj : j + 4 ≤ L) (hL : L ≤ 2048) (hd : 62 ≤ d) (kk : ∀ (t1 : zMod) (u1 : zCls), zINV t1 u1 → Rq mL_law d (some (L, xs)) 875 [.ref 999, .ref 11, .ref 0, .int (nI j)] [] (hA t1 u1) Q) : Rq mL_law d (some (L, xs)) 26 [.ref 999, .ref 11, .ref 0, .int (nI j)] [] (hA t u) Q := by
  refine r_aload_n eL_law_26 rfl rfl ?_
  refine r_iload_n eL_law_27 rfl rfl ?_
  refine r_sld (j := j) eL_law_28 rfl (by omega) (by omega) ?_
  refine n_bipush 31 eL_law_29 rfl ?_
  refine r_iand eL_law_31 ?_
  obtain ⟨k, hk, e⟩ := zm31 (xs j)
  refine z_top (y := nI k) e ?_
  clear e
  rcases (by omega : k = 0 ∨ k = 1 ∨ k = 2 ∨ k = 3 ∨ k = 4 ∨ k = 5 ∨ k = 6 ∨ k = 7 ∨ k = 8 ∨ k = 9 ∨ k = 10 ∨ k = 11 ∨ k = 12 ∨ k = 13 ∨ k = 14 ∨ k = 15 ∨ k = 16 ∨ k = 17 ∨ k = 18 ∨ k = 19 ∨ k = 20 ∨ k = 21 ∨ k = 22 ∨ k = 23 ∨ k = 24 ∨ k = 25 ∨ k = 26 ∨ k = 27 ∨ k = 28 ∨ k = 29 ∨ k = 30 ∨ k = 31) with rfl | rfl | rfl | rfl | rfl | rfl | rfl | rfl | rfl | rfl | rfl | rfl | rfl | rfl | rfl | rfl | rfl | rfl | rfl | rfl | rfl | rfl | rfl | rfl | rfl | rfl | rfl | rfl | rfl | rfl | rfl | rfl
  · exact r_tabIn (off := 140) (tgt := 172) eL_law_32 (by decide) (by decide) (by decide) (by decide) (zlw_letter h hj hL hd kk)
  · exact r_tabIn (off := 163) (tgt := 195) eL_law_32 (by decide) (by decide) (by decide) (by decide) (zlw_town h hj hL hd kk)
  · exact r_tabIn (off := 176) (tgt := 208) eL_law_32 (by decide) (by decide) (by decide) (by decide) (zlw_person h hj hL hd kk)
  · exact r_tabIn (off := 209) (tgt := 241) eL_law_32 (by decide) (by decide) (by decide) (by decide) (zlw_key h hj hL hd kk)
  · exact r_tabIn (off := 242) (tgt := 274) eL_law_32 (by decide) (by decide) (by decide) (by decide) (zlw_give h hj hL hd kk)
  · exact r_tabIn (off := 275) (tgt := 307) eL_law_32 (by decide) (by decide) (by decide) (by decide) (zlw_cast h hj hL hd kk)
  · exact r_tabIn (off := 308) (tgt := 340) eL_law_32 (by decide) (by decide) (by decide) (by decide) (zlw_lose h hj hL hd kk)
  · exact r_tabIn (off := 331) (tgt := 363) eL_law_32 (by decide) (by decide) (by decide) (by decide) (zlw_watch h hj hL hd kk)
  · exact r_tabIn (off := 354) (tgt := 386) eL_law_32 (by decide) (by decide) (by decide) (by decide) (zlw_wake h hj hL hd kk)
  · exact r_tabIn (off := 387) (tgt := 419) eL_law_32 (by decide) (by decide) (by decide) (by decide) (zlw_walk h hj hL hd kk)
  · exact r_tabIn (off := 410) (tgt := 442) eL_law_32 (by decide) (by decide) (by decide) (by decide) (zlw_out h hj hL hd kk)
  · exact r_tabIn (off := 433) (tgt := 465) eL_law_32 (by decide) (by decide) (by decide) (by decide) (zlw_all h hj hL hd kk)
  · exact r_tabIn (off := 446) (tgt := 478) eL_law_32 (by decide) (by decide) (by decide) (by decide) (zlw_late h hj hL hd kk)
  · exact r_tabIn (off := 459) (tgt := 491) eL_law_32 (by decide) (by decide) (by decide) (by decide) (zlw_by h hj hL hd kk)
  · exact r_tabIn (off := 482) (tgt := 514) eL_law_32 (by decide) (by decide) (by decide) (by decide) (zlw_fewest h hj hL hd kk)
  · exact r_tabIn (off := 505) (tgt := 537) eL_law_32 (by decide) (by decide) (by decide) (by decide) (zlw_soonest h hj hL hd kk)
  · exact r_tabIn (off := 528) (tgt := 560) eL_law_32 (by decide) (by decide) (by decide) (by decide) (zlw_copy h hj hL hd kk)
  · exact r_tabIn (off := 541) (tgt := 573) eL_law_32 (by decide) (by decide) (by decide) (by decide) (zlw_copies h hj hL hd kk)
  · exact r_tabIn (off := 564) (tgt := 596) eL_law_32 (by decide) (by decide) (by decide) (by decide) (zlw_rings h hj hL hd kk)
  · exact r_tabIn (off := 577) (tgt := 609) eL_law_32 (by decide) (by decide) (by decide) (by decide) (zlw_swap h hj hL hd kk)
  · exact r_tabIn (off := 590) (tgt := 622) eL_law_32 (by decide) (by decide) (by decide) (by decide) (zlw_gone h hj hL hd kk)
  · exact r_tabIn (off := 613) (tgt := 645) eL_law_32 (by decide) (by decide) (by decide) (by decide) (zlw_breaking h hj hL hd kk)
  · exact r_tabIn (off := 636) (tgt := 668) eL_law_32 (by decide) (by decide) (by decide) (by decide) (zlw_fire h hj hL hd kk)
  · exact r_tabIn (off := 669) (tgt := 701) eL_law_32 (by decide) (by decide) (by decide) (by decide) (zlw_lot h hj hL hd kk)
  · exact r_tabIn (off := 712) (tgt := 744) eL_law_32 (by decide) (by decide) (by decide) (by decide) (zlw_row h hj hL hd kk)
  · exact r_tabIn (off := 735) (tgt := 767) eL_law_32 (by decide) (by decide) (by decide) (by decide) (zlw_overslept h hj hL hd kk)
  · exact r_tabIn (off := 748) (tgt := 780) eL_law_32 (by decide) (by decide) (by decide) (by decide) (zlw_judge h hj hL hd kk)
  · exact r_tabIn (off := 761) (tgt := 793) eL_law_32 (by decide) (by decide) (by decide) (by decide) (zlw_seeds h hj hL hd kk)
  · exact r_tabIn (off := 794) (tgt := 826) eL_law_32 (by decide) (by decide) (by decide) (by decide) (zlw_image h hj hL hd kk)
  · exact r_tabIn (off := 807) (tgt := 839) eL_law_32 (by decide) (by decide) (by decide) (by decide) (zlw_on h hj hL hd kk)
  · exact r_tabIn (off := 820) (tgt := 852) eL_law_32 (by decide) (by decide) (by decide) (by decide) (zlw_count h hj hL hd kk)
  · exact r_tabOut (tgt := 875) eL_law_32 (by decide) (by decide) (kk _ _ h)
set_option maxHeartbeats 1000000 in
set_option maxRecDepth 100000 in
/-- the whole loop -/
theorem zlw_loop {L d : Nat} {xs : Nat → Int32} {Q : Option Int32 → List zC → Prop} (hL : L ≤ 2048) (hd : 62 ≤ d) (hQ : ∀ (t : zMod) (u : zCls), zINV t u → Q (some (nI 1)) (hA t u)) : ∀ (k : Nat) (t : zMod) (u : zCls) (j : Nat), zINV t u → j ≤ 2052 → L ≤ j + k → Rq mL_law d (some (L, xs)) 18 [.ref 999, .ref 11, .ref 0, .int (nI j)] [] (hA t u) Q := by
  intro k
  induction k with
  | zero =>
    intro t u j h hj hk
    refine r_iload_n eL_law_18 rfl rfl ?_
    refine r_aload_n eL_law_19 rfl rfl ?_
    refine r_slen eL_law_20 ?_
    refine n_iconst 4 eL_law_21 rfl ?_
    refine r_isub eL_law_22 ?_
    refine r_icmp_gt eL_law_23 (fun _ => ?_) (fun z => absurd ((zlg hL (by omega)).mpr (by omega)) z)
    refine n_iconst 1 eL_law_881 rfl ?_
    exact z_iret eL_law_882 rfl rfl (hQ _ _ h)
  | succ k ih =>
    intro t u j h hj hk
    refine r_iload_n eL_law_18 rfl rfl ?_
    refine r_aload_n eL_law_19 rfl rfl ?_
    refine r_slen eL_law_20 ?_
    refine n_iconst 4 eL_law_21 rfl ?_
    refine r_isub eL_law_22 ?_
    refine r_icmp_gt eL_law_23 (fun _ => ?_) (fun z => ?_)
    · refine n_iconst 1 eL_law_881 rfl ?_
      exact z_iret eL_law_882 rfl rfl (hQ _ _ h)
    · have hj4 : j + 4 ≤ L := Nat.not_lt.mp (fun y => z ((zlg hL (by omega)).mpr y))
      refine zlw_turn h hj4 hL hd (fun t1 u1 h1 => ?_)
      refine n_iinc (k := 4) eL_law_875 rfl (by decide) rfl ?_
      refine r_goto eL_law_878 ?_
      exact ih t1 u1 (j + 4) h1 (by omega) (by omega)
