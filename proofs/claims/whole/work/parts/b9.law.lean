/-! the law's cases -/
theorem in32 (x : Int32) : inI x.toInt := by
  have h1 := Int32.le_toInt x
  have h2 := Int32.toInt_lt x
  unfold inI
  omega
theorem in64 (x : Int64) : inL x.toInt := by
  have h1 := Int64.le_toInt x
  have h2 := Int64.toInt_lt x
  unfold inL
  omega
theorem inIL {z : Int} (h : inI z) : inL z := by unfold inI at h; unfold inL; omega
def lo1 (a : Int) : Int := (Int64.ofInt a <<< ((Int32.ofInt 32).toInt64 &&& 63)).toInt
def lo2 (a : Int) : Int := (Int64.ofInt a &&& Int64.ofInt 4294967295).toInt
def lo3 (a b : Int) : Int := (Int64.ofInt a ||| Int64.ofInt b).toInt
section Cb9
variable {g : xG} {k : scT} {rc rs : Nat} {n : Nat} {f : xH} {S : LSt} {i : Nat}
theorem lc_box (hX : okX g) (h : LSf n f S) (hi : inv S) (hk : i + 8 ≤ k.2.1) (hL : k.2.1 ≤ 4096) (K : ∀ n1 f1 S1, LSf n1 f1 S1 → inv S1 → xl g k rc rs 1775 [(1, vR 0), (2, vR 38), (3, vR 78), (4, vI (i : Int))] [] n1 f1) : xl g k (rc + 401) (rs + 2806) 168 [(1, vR 0), (2, vR 38), (3, vR 78), (4, vI (i : Int))] [] n f := by
  obtain ⟨bn, β, gn, σ, d, as, ps, pb, pu, pr⟩ := S
  have h : LSf n f (mkS bn β gn σ d as ps pb pu pr) := h
  have hi : chn gn σ as := hi
  refine xl_room (rc := rc + 401) (rs := rs + 2806) (rc' := rc + 3) (rs' := rs + 623) (by omega) (by omega) ?_
  refine xl_aload_n dL_law_168 rfl ?_
  refine xl_scr (i := i) (j := 1) (z := i + 1) dL_law_169 dL_law_170 dL_law_172 (Or.inl ⟨rfl, rfl⟩) dL_law_173 dL_law_174 rfl rfl (by omega) hL ?_
  refine xl_aload_n dL_law_175 rfl ?_
  refine xl_callSW (rc := rc) (rs := rs) (mc2 := 3) (ms2 := 623) (As := [vR 0, vI (k.2.2 (i + 1)).toInt, vR 78]) (st := []) dL_law_176 msw_L_85 (by decide) (by decide) (Nat.le_of_ble_eq_true rfl) rfl (wct_box hX h (in32 _) (fun n1 f1 kk v S1 hr hn ha ho hkk => ?_))
  show xl g k rc rs 179 [(1, vR 0), (2, vR 38), (3, vR 78), (4, vI (i : Int))] [vI kk] n1 f1
  obtain ⟨_, ⟨th, hM⟩, _⟩ := id ha
  obtain ⟨m9, h38, _⟩ := id hM
  refine xl_istore dL_law_179 (by decide) (by decide) ?_
  refine xl_aload_n dL_law_181 rfl ?_
  refine xl_scr (i := i) (j := 1) (z := i + 1) dL_law_182 dL_law_183 dL_law_185 (Or.inl ⟨rfl, rfl⟩) dL_law_186 dL_law_187 rfl rfl (by omega) hL ?_
  refine xl_callV (rc := rc) (rs := rs) (mc2 := 0) (ms2 := 0) (a := 38) (As := [vI (k.2.2 (i + 1)).toInt]) (st := []) dL_law_188 mv_L_90 h38 rfl (by decide) (by decide) (Nat.le_of_ble_eq_true rfl) rfl (mwt_box hM (in32 _) hr (fun f2 v2 hM2 hC2 hv => ?_))
  have hLS := LS_M ha hM2 hC2
  have hiv := iv_box hM hi hr
  obtain ⟨m2, h38b, hm2, _⟩ := id hM2
  show xl g k rc rs 191 [(5, vI kk), (1, vR 0), (2, vR 38), (3, vR 78), (4, vI (i : Int))] [vI v2] n1 f2
  refine xl_istore dL_law_191 (by decide) (by decide) ?_
  refine xl_aload_n dL_law_193 rfl ?_
  refine xl_callV (rc := rc) (rs := rs) (mc2 := 0) (ms2 := 0) (a := 38) (As := []) (st := []) dL_law_194 mv_L_91 h38b rfl (by decide) (by decide) (Nat.le_of_ble_eq_true rfl) rfl (ct_thrown h38b ?_)
  show xl g k rc rs 197 [(6, vI v2), (5, vI kk), (1, vR 0), (2, vR 38), (3, vR 78), (4, vI (i : Int))] [vI (m2 0)] n1 f2
  refine xl_topi kk hm2.1 ?_
  refine xl_iload dL_law_197 rfl ?_
  refine xl_icmpsame (tgt := 204) dL_law_199 (by decide) ?_
  refine xl_iload dL_law_204 rfl ?_
  refine xl_ifne (tgt := 221) dL_law_206 (by decide) (by unfold inI; omega) (fun _ => xl_goto (tgt := 1775) dL_law_221 (by decide) (xl_ls [(1, vR 0), (2, vR 38), (3, vR 78), (4, vI (i : Int))] ⟨rfl, rfl, rfl, rfl, trivial⟩ (K n1 f2 S1 hLS hiv))) (fun e0 => ?_)
  obtain ⟨o, h78, ho0⟩ := ho e0
  have h78b : f2 78 = some (aL 1 o) := (hC2 78 (by omega)).trans h78
  have ev := hv e0
  subst ev
  refine xl_aload_n dL_law_209 rfl ?_
  refine xl_iconst dL_law_210 ?_
  refine xl_lald (N := 1) (j := 0) dL_law_211 h78b rfl (by decide) (by decide) ?_
  refine xl_topl (nrm v2) ho0 ?_
  refine xl_iload dL_law_212 rfl ?_
  refine xl_nrm ?_
  refine xl_i2l dL_law_214 (nrm_in _) ?_
  refine xl_lcmp dL_law_215 (inIL (nrm_in _)) (inIL (nrm_in _)) ?_
  refine xl_ifeq (tgt := 221) dL_law_216 (by decide) (xcmp_in _ _) (fun _ => xl_goto (tgt := 1775) dL_law_221 (by decide) (xl_ls [(1, vR 0), (2, vR 38), (3, vR 78), (4, vI (i : Int))] ⟨rfl, rfl, rfl, rfl, trivial⟩ (K n1 f2 S1 hLS hiv))) (fun q => absurd ((xcmp_eq _ _).2 rfl) q)
theorem lc_row (hX : okX g) (h : LSf n f S) (hi : inv S) (hk : i + 8 ≤ k.2.1) (hL : k.2.1 ≤ 4096) (K : ∀ n1 f1 S1, LSf n1 f1 S1 → inv S1 → xl g k rc rs 1775 [(1, vR 0), (2, vR 38), (3, vR 78), (4, vI (i : Int))] [] n1 f1) : xl g k (rc + 401) (rs + 2806) 224 [(1, vR 0), (2, vR 38), (3, vR 78), (4, vI (i : Int))] [] n f := by
  obtain ⟨bn, β, gn, σ, d, as, ps, pb, pu, pr⟩ := S
  have h : LSf n f (mkS bn β gn σ d as ps pb pu pr) := h
  have hi : chn gn σ as := hi
  refine xl_room (rc := rc + 401) (rs := rs + 2806) (rc' := rc + 1) (rs' := rs + 6) (by omega) (by omega) ?_
  refine xl_aload_n dL_law_224 rfl ?_
  refine xl_scr (i := i) (j := 1) (z := i + 1) dL_law_225 dL_law_226 dL_law_228 (Or.inl ⟨rfl, rfl⟩) dL_law_229 dL_law_230 rfl rfl (by omega) hL ?_
  refine xl_scr (i := i) (j := 2) (z := i + 2) dL_law_231 dL_law_232 dL_law_234 (Or.inl ⟨rfl, rfl⟩) dL_law_235 dL_law_236 rfl rfl (by omega) hL ?_
  refine xl_scr (i := i) (j := 3) (z := i + 3) dL_law_237 dL_law_238 dL_law_240 (Or.inl ⟨rfl, rfl⟩) dL_law_241 dL_law_242 rfl rfl (by omega) hL ?_
  refine xl_aload_n dL_law_243 rfl ?_
  refine xl_callSW (rc := rc) (rs := rs) (mc2 := 1) (ms2 := 6) (As := [vR 0, vI (k.2.2 (i + 1)).toInt, vI (k.2.2 (i + 2)).toInt, vI (k.2.2 (i + 3)).toInt, vR 78]) (st := []) dL_law_244 msw_L_95 (by decide) (by decide) (Nat.le_of_ble_eq_true rfl) rfl (wct_row hX h (in32 _) (in32 _) (in32 _) (fun n1 f1 kk v S1 hr hn ha ho hkk => ?_))
  show xl g k rc rs 247 [(1, vR 0), (2, vR 38), (3, vR 78), (4, vI (i : Int))] [vI kk] n1 f1
  obtain ⟨_, ⟨th, hM⟩, _⟩ := id ha
  obtain ⟨m9, h38, _⟩ := id hM
  refine xl_istore dL_law_247 (by decide) (by decide) ?_
  refine xl_aload_n dL_law_249 rfl ?_
  refine xl_scr (i := i) (j := 1) (z := i + 1) dL_law_250 dL_law_251 dL_law_253 (Or.inl ⟨rfl, rfl⟩) dL_law_254 dL_law_255 rfl rfl (by omega) hL ?_
  refine xl_scr (i := i) (j := 2) (z := i + 2) dL_law_256 dL_law_257 dL_law_259 (Or.inl ⟨rfl, rfl⟩) dL_law_260 dL_law_261 rfl rfl (by omega) hL ?_
  refine xl_scr (i := i) (j := 3) (z := i + 3) dL_law_262 dL_law_263 dL_law_265 (Or.inl ⟨rfl, rfl⟩) dL_law_266 dL_law_267 rfl rfl (by omega) hL ?_
  refine xl_callV (rc := rc) (rs := rs) (mc2 := 0) (ms2 := 0) (a := 38) (As := [vI (k.2.2 (i + 1)).toInt, vI (k.2.2 (i + 2)).toInt, vI (k.2.2 (i + 3)).toInt]) (st := []) dL_law_268 mv_L_98 h38 rfl (by decide) (by decide) (Nat.le_of_ble_eq_true rfl) rfl (mwt_row hM (in32 _) (in32 _) (in32 _) hr (fun f2 v2 hM2 hC2 hv => ?_))
  have hLS := LS_M ha hM2 hC2
  have hiv := iv_row hM hi hr
  obtain ⟨m2, h38b, hm2, _⟩ := id hM2
  show xl g k rc rs 271 [(5, vI kk), (1, vR 0), (2, vR 38), (3, vR 78), (4, vI (i : Int))] [vI v2] n1 f2
  refine xl_istore dL_law_271 (by decide) (by decide) ?_
  refine xl_aload_n dL_law_273 rfl ?_
  refine xl_callV (rc := rc) (rs := rs) (mc2 := 0) (ms2 := 0) (a := 38) (As := []) (st := []) dL_law_274 mv_L_91 h38b rfl (by decide) (by decide) (Nat.le_of_ble_eq_true rfl) rfl (ct_thrown h38b ?_)
  show xl g k rc rs 277 [(6, vI v2), (5, vI kk), (1, vR 0), (2, vR 38), (3, vR 78), (4, vI (i : Int))] [vI (m2 0)] n1 f2
  refine xl_topi kk hm2.1 ?_
  refine xl_iload dL_law_277 rfl ?_
  refine xl_icmpsame (tgt := 284) dL_law_279 (by decide) ?_
  refine xl_iload dL_law_284 rfl ?_
  refine xl_ifne (tgt := 301) dL_law_286 (by decide) (by unfold inI; omega) (fun _ => xl_goto (tgt := 1775) dL_law_301 (by decide) (xl_ls [(1, vR 0), (2, vR 38), (3, vR 78), (4, vI (i : Int))] ⟨rfl, rfl, rfl, rfl, trivial⟩ (K n1 f2 S1 hLS hiv))) (fun e0 => ?_)
  obtain ⟨o, h78, ho0⟩ := ho e0
  have h78b : f2 78 = some (aL 1 o) := (hC2 78 (by omega)).trans h78
  have ev := hv e0
  subst ev
  refine xl_aload_n dL_law_289 rfl ?_
  refine xl_iconst dL_law_290 ?_
  refine xl_lald (N := 1) (j := 0) dL_law_291 h78b rfl (by decide) (by decide) ?_
  refine xl_topl (nrm v2) ho0 ?_
  refine xl_iload dL_law_292 rfl ?_
  refine xl_nrm ?_
  refine xl_i2l dL_law_294 (nrm_in _) ?_
  refine xl_lcmp dL_law_295 (inIL (nrm_in _)) (inIL (nrm_in _)) ?_
  refine xl_ifeq (tgt := 301) dL_law_296 (by decide) (xcmp_in _ _) (fun _ => xl_goto (tgt := 1775) dL_law_301 (by decide) (xl_ls [(1, vR 0), (2, vR 38), (3, vR 78), (4, vI (i : Int))] ⟨rfl, rfl, rfl, rfl, trivial⟩ (K n1 f2 S1 hLS hiv))) (fun q => absurd ((xcmp_eq _ _).2 rfl) q)
theorem lc_put (hX : okX g) (h : LSf n f S) (hi : inv S) (hk : i + 8 ≤ k.2.1) (hL : k.2.1 ≤ 4096) (K : ∀ n1 f1 S1, LSf n1 f1 S1 → inv S1 → xl g k rc rs 1775 [(1, vR 0), (2, vR 38), (3, vR 78), (4, vI (i : Int))] [] n1 f1) : xl g k (rc + 401) (rs + 2806) 304 [(1, vR 0), (2, vR 38), (3, vR 78), (4, vI (i : Int))] [] n f := by
  obtain ⟨bn, β, gn, σ, d, as, ps, pb, pu, pr⟩ := S
  have h : LSf n f (mkS bn β gn σ d as ps pb pu pr) := h
  have hi : chn gn σ as := hi
  refine xl_room (rc := rc + 401) (rs := rs + 2806) (rc' := rc + 1) (rs' := rs + 6) (by omega) (by omega) ?_
  refine xl_aload_n dL_law_304 rfl ?_
  refine xl_scr (i := i) (j := 1) (z := i + 1) dL_law_305 dL_law_306 dL_law_308 (Or.inl ⟨rfl, rfl⟩) dL_law_309 dL_law_310 rfl rfl (by omega) hL ?_
  refine xl_scr (i := i) (j := 2) (z := i + 2) dL_law_311 dL_law_312 dL_law_314 (Or.inl ⟨rfl, rfl⟩) dL_law_315 dL_law_316 rfl rfl (by omega) hL ?_
  refine xl_scr (i := i) (j := 3) (z := i + 3) dL_law_317 dL_law_318 dL_law_320 (Or.inl ⟨rfl, rfl⟩) dL_law_321 dL_law_322 rfl rfl (by omega) hL ?_
  refine xl_scr (i := i) (j := 4) (z := i + 4) dL_law_323 dL_law_324 dL_law_326 (Or.inl ⟨rfl, rfl⟩) dL_law_327 dL_law_328 rfl rfl (by omega) hL ?_
  refine xl_i2l dL_law_329 (in32 _) ?_
  refine xl_bipush (z := 32) dL_law_330 (by decide) ?_
  refine xl_lshl (z := lo1 (k.2.2 (i + 4)).toInt) dL_law_332 (Int64.ofInt_toInt _).symm ?_
  refine xl_scr (i := i) (j := 5) (z := i + 5) dL_law_333 dL_law_334 dL_law_336 (Or.inl ⟨rfl, rfl⟩) dL_law_337 dL_law_338 rfl rfl (by omega) hL ?_
  refine xl_i2l dL_law_339 (in32 _) ?_
  refine xl_ldc2 (z := 4294967295) dL_law_340 kl_L_99 (by decide) ?_
  refine xl_land (z := lo2 (k.2.2 (i + 5)).toInt) dL_law_343 (Int64.ofInt_toInt _).symm ?_
  refine xl_lor (z := lo3 (lo1 (k.2.2 (i + 4)).toInt) (lo2 (k.2.2 (i + 5)).toInt)) dL_law_344 (Int64.ofInt_toInt _).symm ?_
  refine xl_aload_n dL_law_345 rfl ?_
  refine xl_callSW (rc := rc) (rs := rs) (mc2 := 1) (ms2 := 6) (As := [vR 0, vI (k.2.2 (i + 1)).toInt, vI (k.2.2 (i + 2)).toInt, vI (k.2.2 (i + 3)).toInt, vL (lo3 (lo1 (k.2.2 (i + 4)).toInt) (lo2 (k.2.2 (i + 5)).toInt)), vR 78]) (st := []) dL_law_346 msw_L_101 (by decide) (by decide) (Nat.le_of_ble_eq_true rfl) rfl (wct_put hX h (in32 _) (in32 _) (in32 _) (in64 _) (fun n1 f1 kk v S1 hr hn ha ho hkk => ?_))
  show xl g k rc rs 349 [(1, vR 0), (2, vR 38), (3, vR 78), (4, vI (i : Int))] [vI kk] n1 f1
  obtain ⟨_, ⟨th, hM⟩, _⟩ := id ha
  obtain ⟨m9, h38, _⟩ := id hM
  refine xl_istore dL_law_349 (by decide) (by decide) ?_
  refine xl_aload_n dL_law_351 rfl ?_
  refine xl_scr (i := i) (j := 1) (z := i + 1) dL_law_352 dL_law_353 dL_law_355 (Or.inl ⟨rfl, rfl⟩) dL_law_356 dL_law_357 rfl rfl (by omega) hL ?_
  refine xl_scr (i := i) (j := 2) (z := i + 2) dL_law_358 dL_law_359 dL_law_361 (Or.inl ⟨rfl, rfl⟩) dL_law_362 dL_law_363 rfl rfl (by omega) hL ?_
  refine xl_scr (i := i) (j := 3) (z := i + 3) dL_law_364 dL_law_365 dL_law_367 (Or.inl ⟨rfl, rfl⟩) dL_law_368 dL_law_369 rfl rfl (by omega) hL ?_
  refine xl_scr (i := i) (j := 4) (z := i + 4) dL_law_370 dL_law_371 dL_law_373 (Or.inl ⟨rfl, rfl⟩) dL_law_374 dL_law_375 rfl rfl (by omega) hL ?_
  refine xl_i2l dL_law_376 (in32 _) ?_
  refine xl_bipush (z := 32) dL_law_377 (by decide) ?_
  refine xl_lshl (z := lo1 (k.2.2 (i + 4)).toInt) dL_law_379 (Int64.ofInt_toInt _).symm ?_
  refine xl_scr (i := i) (j := 5) (z := i + 5) dL_law_380 dL_law_381 dL_law_383 (Or.inl ⟨rfl, rfl⟩) dL_law_384 dL_law_385 rfl rfl (by omega) hL ?_
  refine xl_i2l dL_law_386 (in32 _) ?_
  refine xl_ldc2 (z := 4294967295) dL_law_387 kl_L_99 (by decide) ?_
  refine xl_land (z := lo2 (k.2.2 (i + 5)).toInt) dL_law_390 (Int64.ofInt_toInt _).symm ?_
  refine xl_lor (z := lo3 (lo1 (k.2.2 (i + 4)).toInt) (lo2 (k.2.2 (i + 5)).toInt)) dL_law_391 (Int64.ofInt_toInt _).symm ?_
  refine xl_callV (rc := rc) (rs := rs) (mc2 := 0) (ms2 := 0) (a := 38) (As := [vI (k.2.2 (i + 1)).toInt, vI (k.2.2 (i + 2)).toInt, vI (k.2.2 (i + 3)).toInt, vL (lo3 (lo1 (k.2.2 (i + 4)).toInt) (lo2 (k.2.2 (i + 5)).toInt))]) (st := []) dL_law_392 mv_L_104 h38 rfl (by decide) (by decide) (Nat.le_of_ble_eq_true rfl) rfl (mwt_put hM (in32 _) (in32 _) (in32 _) (in64 _) hr (fun f2 v2 hM2 hC2 hv => ?_))
  have hLS := LS_M ha hM2 hC2
  have hiv := iv_put hM hi hr
  obtain ⟨m2, h38b, hm2, _⟩ := id hM2
  show xl g k rc rs 395 [(5, vI kk), (1, vR 0), (2, vR 38), (3, vR 78), (4, vI (i : Int))] [vI v2] n1 f2
  refine xl_istore dL_law_395 (by decide) (by decide) ?_
  refine xl_aload_n dL_law_397 rfl ?_
  refine xl_callV (rc := rc) (rs := rs) (mc2 := 0) (ms2 := 0) (a := 38) (As := []) (st := []) dL_law_398 mv_L_91 h38b rfl (by decide) (by decide) (Nat.le_of_ble_eq_true rfl) rfl (ct_thrown h38b ?_)
  show xl g k rc rs 401 [(6, vI v2), (5, vI kk), (1, vR 0), (2, vR 38), (3, vR 78), (4, vI (i : Int))] [vI (m2 0)] n1 f2
  refine xl_topi kk hm2.1 ?_
  refine xl_iload dL_law_401 rfl ?_
  refine xl_icmpsame (tgt := 408) dL_law_403 (by decide) ?_
  refine xl_iload dL_law_408 rfl ?_
  refine xl_ifne (tgt := 425) dL_law_410 (by decide) (by unfold inI; omega) (fun _ => xl_goto (tgt := 1775) dL_law_425 (by decide) (xl_ls [(1, vR 0), (2, vR 38), (3, vR 78), (4, vI (i : Int))] ⟨rfl, rfl, rfl, rfl, trivial⟩ (K n1 f2 S1 hLS hiv))) (fun e0 => ?_)
  obtain ⟨o, h78, ho0⟩ := ho e0
  have h78b : f2 78 = some (aL 1 o) := (hC2 78 (by omega)).trans h78
  have ev := hv e0
  subst ev
  refine xl_aload_n dL_law_413 rfl ?_
  refine xl_iconst dL_law_414 ?_
  refine xl_lald (N := 1) (j := 0) dL_law_415 h78b rfl (by decide) (by decide) ?_
  refine xl_topl (nrm v2) ho0 ?_
  refine xl_iload dL_law_416 rfl ?_
  refine xl_nrm ?_
  refine xl_i2l dL_law_418 (nrm_in _) ?_
  refine xl_lcmp dL_law_419 (inIL (nrm_in _)) (inIL (nrm_in _)) ?_
  refine xl_ifeq (tgt := 425) dL_law_420 (by decide) (xcmp_in _ _) (fun _ => xl_goto (tgt := 1775) dL_law_425 (by decide) (xl_ls [(1, vR 0), (2, vR 38), (3, vR 78), (4, vI (i : Int))] ⟨rfl, rfl, rfl, rfl, trivial⟩ (K n1 f2 S1 hLS hiv))) (fun q => absurd ((xcmp_eq _ _).2 rfl) q)
theorem lc_copy (hX : okX g) (h : LSf n f S) (hi : inv S) (hk : i + 8 ≤ k.2.1) (hL : k.2.1 ≤ 4096) (K : ∀ n1 f1 S1, LSf n1 f1 S1 → inv S1 → xl g k rc rs 1775 [(1, vR 0), (2, vR 38), (3, vR 78), (4, vI (i : Int))] [] n1 f1) : xl g k (rc + 401) (rs + 2806) 428 [(1, vR 0), (2, vR 38), (3, vR 78), (4, vI (i : Int))] [] n f := by
  obtain ⟨bn, β, gn, σ, d, as, ps, pb, pu, pr⟩ := S
  have h : LSf n f (mkS bn β gn σ d as ps pb pu pr) := h
  have hi : chn gn σ as := hi
  refine xl_room (rc := rc + 401) (rs := rs + 2806) (rc' := rc + 2) (rs' := rs + 12) (by omega) (by omega) ?_
  refine xl_aload_n dL_law_428 rfl ?_
  refine xl_scr (i := i) (j := 1) (z := i + 1) dL_law_429 dL_law_430 dL_law_432 (Or.inl ⟨rfl, rfl⟩) dL_law_433 dL_law_434 rfl rfl (by omega) hL ?_
  refine xl_scr (i := i) (j := 2) (z := i + 2) dL_law_435 dL_law_436 dL_law_438 (Or.inl ⟨rfl, rfl⟩) dL_law_439 dL_law_440 rfl rfl (by omega) hL ?_
  refine xl_scr (i := i) (j := 3) (z := i + 3) dL_law_441 dL_law_442 dL_law_444 (Or.inl ⟨rfl, rfl⟩) dL_law_445 dL_law_446 rfl rfl (by omega) hL ?_
  refine xl_scr (i := i) (j := 4) (z := i + 4) dL_law_447 dL_law_448 dL_law_450 (Or.inl ⟨rfl, rfl⟩) dL_law_451 dL_law_452 rfl rfl (by omega) hL ?_
  refine xl_scr (i := i) (j := 5) (z := i + 5) dL_law_453 dL_law_454 dL_law_456 (Or.inl ⟨rfl, rfl⟩) dL_law_457 dL_law_458 rfl rfl (by omega) hL ?_
  refine xl_scr (i := i) (j := 6) (z := i + 6) dL_law_459 dL_law_460 dL_law_462 (Or.inr ⟨rfl, rfl, by decide⟩) dL_law_464 dL_law_465 rfl rfl (by omega) hL ?_
  refine xl_scr (i := i) (j := 7) (z := i + 7) dL_law_466 dL_law_467 dL_law_469 (Or.inr ⟨rfl, rfl, by decide⟩) dL_law_471 dL_law_472 rfl rfl (by omega) hL ?_
  refine xl_aload_n dL_law_473 rfl ?_
  refine xl_callSW (rc := rc) (rs := rs) (mc2 := 2) (ms2 := 12) (As := [vR 0, vI (k.2.2 (i + 1)).toInt, vI (k.2.2 (i + 2)).toInt, vI (k.2.2 (i + 3)).toInt, vI (k.2.2 (i + 4)).toInt, vI (k.2.2 (i + 5)).toInt, vI (k.2.2 (i + 6)).toInt, vI (k.2.2 (i + 7)).toInt, vR 78]) (st := []) dL_law_474 msw_L_105 (by decide) (by decide) (Nat.le_of_ble_eq_true rfl) rfl (wct_copy hX h (in32 _) (in32 _) (in32 _) (in32 _) (in32 _) (in32 _) (in32 _) (fun n1 f1 kk v S1 hr hn ha ho hkk => ?_))
  show xl g k rc rs 477 [(1, vR 0), (2, vR 38), (3, vR 78), (4, vI (i : Int))] [vI kk] n1 f1
  obtain ⟨_, ⟨th, hM⟩, _⟩ := id ha
  obtain ⟨m9, h38, _⟩ := id hM
  refine xl_istore dL_law_477 (by decide) (by decide) ?_
  refine xl_aload_n dL_law_479 rfl ?_
  refine xl_scr (i := i) (j := 1) (z := i + 1) dL_law_480 dL_law_481 dL_law_483 (Or.inl ⟨rfl, rfl⟩) dL_law_484 dL_law_485 rfl rfl (by omega) hL ?_
  refine xl_scr (i := i) (j := 2) (z := i + 2) dL_law_486 dL_law_487 dL_law_489 (Or.inl ⟨rfl, rfl⟩) dL_law_490 dL_law_491 rfl rfl (by omega) hL ?_
  refine xl_scr (i := i) (j := 3) (z := i + 3) dL_law_492 dL_law_493 dL_law_495 (Or.inl ⟨rfl, rfl⟩) dL_law_496 dL_law_497 rfl rfl (by omega) hL ?_
  refine xl_scr (i := i) (j := 4) (z := i + 4) dL_law_498 dL_law_499 dL_law_501 (Or.inl ⟨rfl, rfl⟩) dL_law_502 dL_law_503 rfl rfl (by omega) hL ?_
  refine xl_scr (i := i) (j := 5) (z := i + 5) dL_law_504 dL_law_505 dL_law_507 (Or.inl ⟨rfl, rfl⟩) dL_law_508 dL_law_509 rfl rfl (by omega) hL ?_
  refine xl_scr (i := i) (j := 6) (z := i + 6) dL_law_510 dL_law_511 dL_law_513 (Or.inr ⟨rfl, rfl, by decide⟩) dL_law_515 dL_law_516 rfl rfl (by omega) hL ?_
  refine xl_scr (i := i) (j := 7) (z := i + 7) dL_law_517 dL_law_518 dL_law_520 (Or.inr ⟨rfl, rfl, by decide⟩) dL_law_522 dL_law_523 rfl rfl (by omega) hL ?_
  refine xl_callV (rc := rc) (rs := rs) (mc2 := 0) (ms2 := 0) (a := 38) (As := [vI (k.2.2 (i + 1)).toInt, vI (k.2.2 (i + 2)).toInt, vI (k.2.2 (i + 3)).toInt, vI (k.2.2 (i + 4)).toInt, vI (k.2.2 (i + 5)).toInt, vI (k.2.2 (i + 6)).toInt, vI (k.2.2 (i + 7)).toInt]) (st := []) dL_law_524 mv_L_108 h38 rfl (by decide) (by decide) (Nat.le_of_ble_eq_true rfl) rfl (mwt_copy hM (in32 _) (in32 _) (in32 _) (in32 _) (in32 _) (in32 _) (in32 _) hr (fun f2 v2 hM2 hC2 hv => ?_))
  have hLS := LS_M ha hM2 hC2
  have hiv := iv_copy hM hi hr
  obtain ⟨m2, h38b, hm2, _⟩ := id hM2
  show xl g k rc rs 527 [(5, vI kk), (1, vR 0), (2, vR 38), (3, vR 78), (4, vI (i : Int))] [vI v2] n1 f2
  refine xl_istore dL_law_527 (by decide) (by decide) ?_
  refine xl_aload_n dL_law_529 rfl ?_
  refine xl_callV (rc := rc) (rs := rs) (mc2 := 0) (ms2 := 0) (a := 38) (As := []) (st := []) dL_law_530 mv_L_91 h38b rfl (by decide) (by decide) (Nat.le_of_ble_eq_true rfl) rfl (ct_thrown h38b ?_)
  show xl g k rc rs 533 [(6, vI v2), (5, vI kk), (1, vR 0), (2, vR 38), (3, vR 78), (4, vI (i : Int))] [vI (m2 0)] n1 f2
  refine xl_topi kk hm2.1 ?_
  refine xl_iload dL_law_533 rfl ?_
  refine xl_icmpsame (tgt := 540) dL_law_535 (by decide) ?_
  refine xl_iload dL_law_540 rfl ?_
  refine xl_ifne (tgt := 557) dL_law_542 (by decide) (by unfold inI; omega) (fun _ => xl_goto (tgt := 1775) dL_law_557 (by decide) (xl_ls [(1, vR 0), (2, vR 38), (3, vR 78), (4, vI (i : Int))] ⟨rfl, rfl, rfl, rfl, trivial⟩ (K n1 f2 S1 hLS hiv))) (fun e0 => ?_)
  obtain ⟨o, h78, ho0⟩ := ho e0
  have h78b : f2 78 = some (aL 1 o) := (hC2 78 (by omega)).trans h78
  have ev := hv e0
  subst ev
  refine xl_aload_n dL_law_545 rfl ?_
  refine xl_iconst dL_law_546 ?_
  refine xl_lald (N := 1) (j := 0) dL_law_547 h78b rfl (by decide) (by decide) ?_
  refine xl_topl (nrm v2) ho0 ?_
  refine xl_iload dL_law_548 rfl ?_
  refine xl_nrm ?_
  refine xl_i2l dL_law_550 (nrm_in _) ?_
  refine xl_lcmp dL_law_551 (inIL (nrm_in _)) (inIL (nrm_in _)) ?_
  refine xl_ifeq (tgt := 557) dL_law_552 (by decide) (xcmp_in _ _) (fun _ => xl_goto (tgt := 1775) dL_law_557 (by decide) (xl_ls [(1, vR 0), (2, vR 38), (3, vR 78), (4, vI (i : Int))] ⟨rfl, rfl, rfl, rfl, trivial⟩ (K n1 f2 S1 hLS hiv))) (fun q => absurd ((xcmp_eq _ _).2 rfl) q)
theorem lc_tear (hX : okX g) (h : LSf n f S) (hi : inv S) (hk : i + 8 ≤ k.2.1) (hL : k.2.1 ≤ 4096) (K : ∀ n1 f1 S1, LSf n1 f1 S1 → inv S1 → xl g k rc rs 1775 [(1, vR 0), (2, vR 38), (3, vR 78), (4, vI (i : Int))] [] n1 f1) : xl g k (rc + 401) (rs + 2806) 560 [(1, vR 0), (2, vR 38), (3, vR 78), (4, vI (i : Int))] [] n f := by
  obtain ⟨bn, β, gn, σ, d, as, ps, pb, pu, pr⟩ := S
  have h : LSf n f (mkS bn β gn σ d as ps pb pu pr) := h
  have hi : chn gn σ as := hi
  refine xl_room (rc := rc + 401) (rs := rs + 2806) (rc' := rc + 1) (rs' := rs + 6) (by omega) (by omega) ?_
  refine xl_aload_n dL_law_560 rfl ?_
  refine xl_scr (i := i) (j := 1) (z := i + 1) dL_law_561 dL_law_562 dL_law_564 (Or.inl ⟨rfl, rfl⟩) dL_law_565 dL_law_566 rfl rfl (by omega) hL ?_
  refine xl_scr (i := i) (j := 2) (z := i + 2) dL_law_567 dL_law_568 dL_law_570 (Or.inl ⟨rfl, rfl⟩) dL_law_571 dL_law_572 rfl rfl (by omega) hL ?_
  refine xl_aload_n dL_law_573 rfl ?_
  refine xl_callSW (rc := rc) (rs := rs) (mc2 := 1) (ms2 := 6) (As := [vR 0, vI (k.2.2 (i + 1)).toInt, vI (k.2.2 (i + 2)).toInt, vR 78]) (st := []) dL_law_574 msw_L_109 (by decide) (by decide) (Nat.le_of_ble_eq_true rfl) rfl (wct_tear hX h (in32 _) (in32 _) (fun n1 f1 kk v S1 hr hn ha ho hkk => ?_))
  show xl g k rc rs 577 [(1, vR 0), (2, vR 38), (3, vR 78), (4, vI (i : Int))] [vI kk] n1 f1
  obtain ⟨_, ⟨th, hM⟩, _⟩ := id ha
  obtain ⟨m9, h38, _⟩ := id hM
  refine xl_istore dL_law_577 (by decide) (by decide) ?_
  refine xl_aload_n dL_law_579 rfl ?_
  refine xl_scr (i := i) (j := 1) (z := i + 1) dL_law_580 dL_law_581 dL_law_583 (Or.inl ⟨rfl, rfl⟩) dL_law_584 dL_law_585 rfl rfl (by omega) hL ?_
  refine xl_scr (i := i) (j := 2) (z := i + 2) dL_law_586 dL_law_587 dL_law_589 (Or.inl ⟨rfl, rfl⟩) dL_law_590 dL_law_591 rfl rfl (by omega) hL ?_
  refine xl_callV (rc := rc) (rs := rs) (mc2 := 0) (ms2 := 0) (a := 38) (As := [vI (k.2.2 (i + 1)).toInt, vI (k.2.2 (i + 2)).toInt]) (st := []) dL_law_592 mv_L_112 h38 rfl (by decide) (by decide) (Nat.le_of_ble_eq_true rfl) rfl (mwt_tear hM (in32 _) (in32 _) hr (fun f2 v2 hM2 hC2 hv => ?_))
  have hLS := LS_M ha hM2 hC2
  have hiv := iv_tear hM hi hr
  obtain ⟨m2, h38b, hm2, _⟩ := id hM2
  show xl g k rc rs 595 [(5, vI kk), (1, vR 0), (2, vR 38), (3, vR 78), (4, vI (i : Int))] [vI v2] n1 f2
  refine xl_istore dL_law_595 (by decide) (by decide) ?_
  refine xl_aload_n dL_law_597 rfl ?_
  refine xl_callV (rc := rc) (rs := rs) (mc2 := 0) (ms2 := 0) (a := 38) (As := []) (st := []) dL_law_598 mv_L_91 h38b rfl (by decide) (by decide) (Nat.le_of_ble_eq_true rfl) rfl (ct_thrown h38b ?_)
  show xl g k rc rs 601 [(6, vI v2), (5, vI kk), (1, vR 0), (2, vR 38), (3, vR 78), (4, vI (i : Int))] [vI (m2 0)] n1 f2
  refine xl_topi kk hm2.1 ?_
  refine xl_iload dL_law_601 rfl ?_
  refine xl_icmpsame (tgt := 608) dL_law_603 (by decide) ?_
  refine xl_iload dL_law_608 rfl ?_
  refine xl_ifne (tgt := 625) dL_law_610 (by decide) (by unfold inI; omega) (fun _ => xl_goto (tgt := 1775) dL_law_625 (by decide) (xl_ls [(1, vR 0), (2, vR 38), (3, vR 78), (4, vI (i : Int))] ⟨rfl, rfl, rfl, rfl, trivial⟩ (K n1 f2 S1 hLS hiv))) (fun e0 => ?_)
  obtain ⟨o, h78, ho0⟩ := ho e0
  have h78b : f2 78 = some (aL 1 o) := (hC2 78 (by omega)).trans h78
  have ev := hv e0
  subst ev
  refine xl_aload_n dL_law_613 rfl ?_
  refine xl_iconst dL_law_614 ?_
  refine xl_lald (N := 1) (j := 0) dL_law_615 h78b rfl (by decide) (by decide) ?_
  refine xl_topl (nrm v2) ho0 ?_
  refine xl_iload dL_law_616 rfl ?_
  refine xl_nrm ?_
  refine xl_i2l dL_law_618 (nrm_in _) ?_
  refine xl_lcmp dL_law_619 (inIL (nrm_in _)) (inIL (nrm_in _)) ?_
  refine xl_ifeq (tgt := 625) dL_law_620 (by decide) (xcmp_in _ _) (fun _ => xl_goto (tgt := 1775) dL_law_625 (by decide) (xl_ls [(1, vR 0), (2, vR 38), (3, vR 78), (4, vI (i : Int))] ⟨rfl, rfl, rfl, rfl, trivial⟩ (K n1 f2 S1 hLS hiv))) (fun q => absurd ((xcmp_eq _ _).2 rfl) q)
theorem lc_lay (hX : okX g) (h : LSf n f S) (hi : inv S) (hk : i + 8 ≤ k.2.1) (hL : k.2.1 ≤ 4096) (K : ∀ n1 f1 S1, LSf n1 f1 S1 → inv S1 → xl g k rc rs 1775 [(1, vR 0), (2, vR 38), (3, vR 78), (4, vI (i : Int))] [] n1 f1) : xl g k (rc + 401) (rs + 2806) 628 [(1, vR 0), (2, vR 38), (3, vR 78), (4, vI (i : Int))] [] n f := by
  obtain ⟨bn, β, gn, σ, d, as, ps, pb, pu, pr⟩ := S
  have h : LSf n f (mkS bn β gn σ d as ps pb pu pr) := h
  have hi : chn gn σ as := hi
  refine xl_room (rc := rc + 401) (rs := rs + 2806) (rc' := rc + 6) (rs' := rs + 30) (by omega) (by omega) ?_
  refine xl_aload_n dL_law_628 rfl ?_
  refine xl_scr (i := i) (j := 1) (z := i + 1) dL_law_629 dL_law_630 dL_law_632 (Or.inl ⟨rfl, rfl⟩) dL_law_633 dL_law_634 rfl rfl (by omega) hL ?_
  refine xl_scr (i := i) (j := 2) (z := i + 2) dL_law_635 dL_law_636 dL_law_638 (Or.inl ⟨rfl, rfl⟩) dL_law_639 dL_law_640 rfl rfl (by omega) hL ?_
  refine xl_scr (i := i) (j := 3) (z := i + 3) dL_law_641 dL_law_642 dL_law_644 (Or.inl ⟨rfl, rfl⟩) dL_law_645 dL_law_646 rfl rfl (by omega) hL ?_
  refine xl_scr (i := i) (j := 4) (z := i + 4) dL_law_647 dL_law_648 dL_law_650 (Or.inl ⟨rfl, rfl⟩) dL_law_651 dL_law_652 rfl rfl (by omega) hL ?_
  refine xl_scr (i := i) (j := 5) (z := i + 5) dL_law_653 dL_law_654 dL_law_656 (Or.inl ⟨rfl, rfl⟩) dL_law_657 dL_law_658 rfl rfl (by omega) hL ?_
  refine xl_aload_n dL_law_659 rfl ?_
  refine xl_callSW (rc := rc) (rs := rs) (mc2 := 6) (ms2 := 30) (As := [vR 0, vI (k.2.2 (i + 1)).toInt, vI (k.2.2 (i + 2)).toInt, vI (k.2.2 (i + 3)).toInt, vI (k.2.2 (i + 4)).toInt, vI (k.2.2 (i + 5)).toInt, vR 78]) (st := []) dL_law_660 msw_L_113 (by decide) (by decide) (Nat.le_of_ble_eq_true rfl) rfl (wct_lay hX h (in32 _) (in32 _) (in32 _) (in32 _) (in32 _) (fun n1 f1 kk v S1 hr hn ha ho hkk => ?_))
  show xl g k rc rs 663 [(1, vR 0), (2, vR 38), (3, vR 78), (4, vI (i : Int))] [vI kk] n1 f1
  obtain ⟨_, ⟨th, hM⟩, _⟩ := id ha
  obtain ⟨m9, h38, _⟩ := id hM
  refine xl_istore dL_law_663 (by decide) (by decide) ?_
  refine xl_aload_n dL_law_665 rfl ?_
  refine xl_scr (i := i) (j := 1) (z := i + 1) dL_law_666 dL_law_667 dL_law_669 (Or.inl ⟨rfl, rfl⟩) dL_law_670 dL_law_671 rfl rfl (by omega) hL ?_
  refine xl_scr (i := i) (j := 2) (z := i + 2) dL_law_672 dL_law_673 dL_law_675 (Or.inl ⟨rfl, rfl⟩) dL_law_676 dL_law_677 rfl rfl (by omega) hL ?_
  refine xl_scr (i := i) (j := 3) (z := i + 3) dL_law_678 dL_law_679 dL_law_681 (Or.inl ⟨rfl, rfl⟩) dL_law_682 dL_law_683 rfl rfl (by omega) hL ?_
  refine xl_scr (i := i) (j := 4) (z := i + 4) dL_law_684 dL_law_685 dL_law_687 (Or.inl ⟨rfl, rfl⟩) dL_law_688 dL_law_689 rfl rfl (by omega) hL ?_
  refine xl_scr (i := i) (j := 5) (z := i + 5) dL_law_690 dL_law_691 dL_law_693 (Or.inl ⟨rfl, rfl⟩) dL_law_694 dL_law_695 rfl rfl (by omega) hL ?_
  refine xl_callV (rc := rc) (rs := rs) (mc2 := 0) (ms2 := 0) (a := 38) (As := [vI (k.2.2 (i + 1)).toInt, vI (k.2.2 (i + 2)).toInt, vI (k.2.2 (i + 3)).toInt, vI (k.2.2 (i + 4)).toInt, vI (k.2.2 (i + 5)).toInt]) (st := []) dL_law_696 mv_L_116 h38 rfl (by decide) (by decide) (Nat.le_of_ble_eq_true rfl) rfl (mwt_lay hM hi (in32 _) (in32 _) (in32 _) (in32 _) (in32 _) hr (fun f2 v2 hM2 hC2 hv => ?_))
  have hLS := LS_M ha hM2 hC2
  have hiv := iv_lay hM hi hr
  obtain ⟨m2, h38b, hm2, _⟩ := id hM2
  show xl g k rc rs 699 [(5, vI kk), (1, vR 0), (2, vR 38), (3, vR 78), (4, vI (i : Int))] [vI v2] n1 f2
  refine xl_istore dL_law_699 (by decide) (by decide) ?_
  refine xl_aload_n dL_law_701 rfl ?_
  refine xl_callV (rc := rc) (rs := rs) (mc2 := 0) (ms2 := 0) (a := 38) (As := []) (st := []) dL_law_702 mv_L_91 h38b rfl (by decide) (by decide) (Nat.le_of_ble_eq_true rfl) rfl (ct_thrown h38b ?_)
  show xl g k rc rs 705 [(6, vI v2), (5, vI kk), (1, vR 0), (2, vR 38), (3, vR 78), (4, vI (i : Int))] [vI (m2 0)] n1 f2
  refine xl_topi kk hm2.1 ?_
  refine xl_iload dL_law_705 rfl ?_
  refine xl_icmpsame (tgt := 712) dL_law_707 (by decide) ?_
  refine xl_iload dL_law_712 rfl ?_
  refine xl_ifne (tgt := 729) dL_law_714 (by decide) (by unfold inI; omega) (fun _ => xl_goto (tgt := 1775) dL_law_729 (by decide) (xl_ls [(1, vR 0), (2, vR 38), (3, vR 78), (4, vI (i : Int))] ⟨rfl, rfl, rfl, rfl, trivial⟩ (K n1 f2 S1 hLS hiv))) (fun e0 => ?_)
  obtain ⟨o, h78, ho0⟩ := ho e0
  have h78b : f2 78 = some (aL 1 o) := (hC2 78 (by omega)).trans h78
  have ev := hv e0
  subst ev
  refine xl_aload_n dL_law_717 rfl ?_
  refine xl_iconst dL_law_718 ?_
  refine xl_lald (N := 1) (j := 0) dL_law_719 h78b rfl (by decide) (by decide) ?_
  refine xl_topl (nrm v2) ho0 ?_
  refine xl_iload dL_law_720 rfl ?_
  refine xl_nrm ?_
  refine xl_i2l dL_law_722 (nrm_in _) ?_
  refine xl_lcmp dL_law_723 (inIL (nrm_in _)) (inIL (nrm_in _)) ?_
  refine xl_ifeq (tgt := 729) dL_law_724 (by decide) (xcmp_in _ _) (fun _ => xl_goto (tgt := 1775) dL_law_729 (by decide) (xl_ls [(1, vR 0), (2, vR 38), (3, vR 78), (4, vI (i : Int))] ⟨rfl, rfl, rfl, rfl, trivial⟩ (K n1 f2 S1 hLS hiv))) (fun q => absurd ((xcmp_eq _ _).2 rfl) q)
theorem lc_move (hX : okX g) (h : LSf n f S) (hi : inv S) (hk : i + 8 ≤ k.2.1) (hL : k.2.1 ≤ 4096) (K : ∀ n1 f1 S1, LSf n1 f1 S1 → inv S1 → xl g k rc rs 1775 [(1, vR 0), (2, vR 38), (3, vR 78), (4, vI (i : Int))] [] n1 f1) : xl g k (rc + 401) (rs + 2806) 732 [(1, vR 0), (2, vR 38), (3, vR 78), (4, vI (i : Int))] [] n f := by
  obtain ⟨bn, β, gn, σ, d, as, ps, pb, pu, pr⟩ := S
  have h : LSf n f (mkS bn β gn σ d as ps pb pu pr) := h
  have hi : chn gn σ as := hi
  refine xl_room (rc := rc + 401) (rs := rs + 2806) (rc' := rc + 1) (rs' := rs + 6) (by omega) (by omega) ?_
  refine xl_aload_n dL_law_732 rfl ?_
  refine xl_scr (i := i) (j := 1) (z := i + 1) dL_law_733 dL_law_734 dL_law_736 (Or.inl ⟨rfl, rfl⟩) dL_law_737 dL_law_738 rfl rfl (by omega) hL ?_
  refine xl_scr (i := i) (j := 2) (z := i + 2) dL_law_739 dL_law_740 dL_law_742 (Or.inl ⟨rfl, rfl⟩) dL_law_743 dL_law_744 rfl rfl (by omega) hL ?_
  refine xl_scr (i := i) (j := 3) (z := i + 3) dL_law_745 dL_law_746 dL_law_748 (Or.inl ⟨rfl, rfl⟩) dL_law_749 dL_law_750 rfl rfl (by omega) hL ?_
  refine xl_scr (i := i) (j := 4) (z := i + 4) dL_law_751 dL_law_752 dL_law_754 (Or.inl ⟨rfl, rfl⟩) dL_law_755 dL_law_756 rfl rfl (by omega) hL ?_
  refine xl_aload_n dL_law_757 rfl ?_
  refine xl_callSW (rc := rc) (rs := rs) (mc2 := 1) (ms2 := 6) (As := [vR 0, vI (k.2.2 (i + 1)).toInt, vI (k.2.2 (i + 2)).toInt, vI (k.2.2 (i + 3)).toInt, vI (k.2.2 (i + 4)).toInt, vR 78]) (st := []) dL_law_758 msw_L_117 (by decide) (by decide) (Nat.le_of_ble_eq_true rfl) rfl (wct_move hX h (in32 _) (in32 _) (in32 _) (in32 _) (fun n1 f1 kk v S1 hr hn ha ho hkk => ?_))
  show xl g k rc rs 761 [(1, vR 0), (2, vR 38), (3, vR 78), (4, vI (i : Int))] [vI kk] n1 f1
  obtain ⟨_, ⟨th, hM⟩, _⟩ := id ha
  obtain ⟨m9, h38, _⟩ := id hM
  refine xl_istore dL_law_761 (by decide) (by decide) ?_
  refine xl_aload_n dL_law_763 rfl ?_
  refine xl_scr (i := i) (j := 1) (z := i + 1) dL_law_764 dL_law_765 dL_law_767 (Or.inl ⟨rfl, rfl⟩) dL_law_768 dL_law_769 rfl rfl (by omega) hL ?_
  refine xl_scr (i := i) (j := 2) (z := i + 2) dL_law_770 dL_law_771 dL_law_773 (Or.inl ⟨rfl, rfl⟩) dL_law_774 dL_law_775 rfl rfl (by omega) hL ?_
  refine xl_scr (i := i) (j := 3) (z := i + 3) dL_law_776 dL_law_777 dL_law_779 (Or.inl ⟨rfl, rfl⟩) dL_law_780 dL_law_781 rfl rfl (by omega) hL ?_
  refine xl_scr (i := i) (j := 4) (z := i + 4) dL_law_782 dL_law_783 dL_law_785 (Or.inl ⟨rfl, rfl⟩) dL_law_786 dL_law_787 rfl rfl (by omega) hL ?_
  refine xl_callV (rc := rc) (rs := rs) (mc2 := 0) (ms2 := 0) (a := 38) (As := [vI (k.2.2 (i + 1)).toInt, vI (k.2.2 (i + 2)).toInt, vI (k.2.2 (i + 3)).toInt, vI (k.2.2 (i + 4)).toInt]) (st := []) dL_law_788 mv_L_120 h38 rfl (by decide) (by decide) (Nat.le_of_ble_eq_true rfl) rfl (mwt_move hM hi (in32 _) (in32 _) (in32 _) (in32 _) hr (fun f2 v2 hM2 hC2 hv => ?_))
  have hLS := LS_M ha hM2 hC2
  have hiv := iv_move hM hi hr
  obtain ⟨m2, h38b, hm2, _⟩ := id hM2
  show xl g k rc rs 791 [(5, vI kk), (1, vR 0), (2, vR 38), (3, vR 78), (4, vI (i : Int))] [vI v2] n1 f2
  refine xl_istore dL_law_791 (by decide) (by decide) ?_
  refine xl_aload_n dL_law_793 rfl ?_
  refine xl_callV (rc := rc) (rs := rs) (mc2 := 0) (ms2 := 0) (a := 38) (As := []) (st := []) dL_law_794 mv_L_91 h38b rfl (by decide) (by decide) (Nat.le_of_ble_eq_true rfl) rfl (ct_thrown h38b ?_)
  show xl g k rc rs 797 [(6, vI v2), (5, vI kk), (1, vR 0), (2, vR 38), (3, vR 78), (4, vI (i : Int))] [vI (m2 0)] n1 f2
  refine xl_topi kk hm2.1 ?_
  refine xl_iload dL_law_797 rfl ?_
  refine xl_icmpsame (tgt := 804) dL_law_799 (by decide) ?_
  refine xl_iload dL_law_804 rfl ?_
  refine xl_ifne (tgt := 821) dL_law_806 (by decide) (by unfold inI; omega) (fun _ => xl_goto (tgt := 1775) dL_law_821 (by decide) (xl_ls [(1, vR 0), (2, vR 38), (3, vR 78), (4, vI (i : Int))] ⟨rfl, rfl, rfl, rfl, trivial⟩ (K n1 f2 S1 hLS hiv))) (fun e0 => ?_)
  obtain ⟨o, h78, ho0⟩ := ho e0
  have h78b : f2 78 = some (aL 1 o) := (hC2 78 (by omega)).trans h78
  have ev := hv e0
  subst ev
  refine xl_aload_n dL_law_809 rfl ?_
  refine xl_iconst dL_law_810 ?_
  refine xl_lald (N := 1) (j := 0) dL_law_811 h78b rfl (by decide) (by decide) ?_
  refine xl_topl (nrm v2) ho0 ?_
  refine xl_iload dL_law_812 rfl ?_
  refine xl_nrm ?_
  refine xl_i2l dL_law_814 (nrm_in _) ?_
  refine xl_lcmp dL_law_815 (inIL (nrm_in _)) (inIL (nrm_in _)) ?_
  refine xl_ifeq (tgt := 821) dL_law_816 (by decide) (xcmp_in _ _) (fun _ => xl_goto (tgt := 1775) dL_law_821 (by decide) (xl_ls [(1, vR 0), (2, vR 38), (3, vR 78), (4, vI (i : Int))] ⟨rfl, rfl, rfl, rfl, trivial⟩ (K n1 f2 S1 hLS hiv))) (fun q => absurd ((xcmp_eq _ _).2 rfl) q)
theorem lc_away (hX : okX g) (h : LSf n f S) (hi : inv S) (hk : i + 8 ≤ k.2.1) (hL : k.2.1 ≤ 4096) (K : ∀ n1 f1 S1, LSf n1 f1 S1 → inv S1 → xl g k rc rs 1775 [(1, vR 0), (2, vR 38), (3, vR 78), (4, vI (i : Int))] [] n1 f1) : xl g k (rc + 401) (rs + 2806) 824 [(1, vR 0), (2, vR 38), (3, vR 78), (4, vI (i : Int))] [] n f := by
  obtain ⟨bn, β, gn, σ, d, as, ps, pb, pu, pr⟩ := S
  have h : LSf n f (mkS bn β gn σ d as ps pb pu pr) := h
  have hi : chn gn σ as := hi
  refine xl_room (rc := rc + 401) (rs := rs + 2806) (rc' := rc + 1) (rs' := rs + 6) (by omega) (by omega) ?_
  refine xl_aload_n dL_law_824 rfl ?_
  refine xl_scr (i := i) (j := 1) (z := i + 1) dL_law_825 dL_law_826 dL_law_828 (Or.inl ⟨rfl, rfl⟩) dL_law_829 dL_law_830 rfl rfl (by omega) hL ?_
  refine xl_aload_n dL_law_831 rfl ?_
  refine xl_callSW (rc := rc) (rs := rs) (mc2 := 1) (ms2 := 6) (As := [vR 0, vI (k.2.2 (i + 1)).toInt, vR 78]) (st := []) dL_law_832 msw_L_121 (by decide) (by decide) (Nat.le_of_ble_eq_true rfl) rfl (wct_away hX h (in32 _) (fun n1 f1 kk v S1 hr hn ha ho hkk => ?_))
  show xl g k rc rs 835 [(1, vR 0), (2, vR 38), (3, vR 78), (4, vI (i : Int))] [vI kk] n1 f1
  obtain ⟨_, ⟨th, hM⟩, _⟩ := id ha
  obtain ⟨m9, h38, _⟩ := id hM
  refine xl_istore dL_law_835 (by decide) (by decide) ?_
  refine xl_aload_n dL_law_837 rfl ?_
  refine xl_scr (i := i) (j := 1) (z := i + 1) dL_law_838 dL_law_839 dL_law_841 (Or.inl ⟨rfl, rfl⟩) dL_law_842 dL_law_843 rfl rfl (by omega) hL ?_
  refine xl_callV (rc := rc) (rs := rs) (mc2 := 0) (ms2 := 0) (a := 38) (As := [vI (k.2.2 (i + 1)).toInt]) (st := []) dL_law_844 mv_L_123 h38 rfl (by decide) (by decide) (Nat.le_of_ble_eq_true rfl) rfl (mwt_away hM hi (in32 _) hr (fun f2 v2 hM2 hC2 hv => ?_))
  have hLS := LS_M ha hM2 hC2
  have hiv := iv_away hM hi hr
  obtain ⟨m2, h38b, hm2, _⟩ := id hM2
  show xl g k rc rs 847 [(5, vI kk), (1, vR 0), (2, vR 38), (3, vR 78), (4, vI (i : Int))] [vI v2] n1 f2
  refine xl_istore dL_law_847 (by decide) (by decide) ?_
  refine xl_aload_n dL_law_849 rfl ?_
  refine xl_callV (rc := rc) (rs := rs) (mc2 := 0) (ms2 := 0) (a := 38) (As := []) (st := []) dL_law_850 mv_L_91 h38b rfl (by decide) (by decide) (Nat.le_of_ble_eq_true rfl) rfl (ct_thrown h38b ?_)
  show xl g k rc rs 853 [(6, vI v2), (5, vI kk), (1, vR 0), (2, vR 38), (3, vR 78), (4, vI (i : Int))] [vI (m2 0)] n1 f2
  refine xl_topi kk hm2.1 ?_
  refine xl_iload dL_law_853 rfl ?_
  refine xl_icmpsame (tgt := 860) dL_law_855 (by decide) ?_
  refine xl_iload dL_law_860 rfl ?_
  refine xl_ifne (tgt := 877) dL_law_862 (by decide) (by unfold inI; omega) (fun _ => xl_goto (tgt := 1775) dL_law_877 (by decide) (xl_ls [(1, vR 0), (2, vR 38), (3, vR 78), (4, vI (i : Int))] ⟨rfl, rfl, rfl, rfl, trivial⟩ (K n1 f2 S1 hLS hiv))) (fun e0 => ?_)
  obtain ⟨o, h78, ho0⟩ := ho e0
  have h78b : f2 78 = some (aL 1 o) := (hC2 78 (by omega)).trans h78
  have ev := hv e0
  subst ev
  refine xl_aload_n dL_law_865 rfl ?_
  refine xl_iconst dL_law_866 ?_
  refine xl_lald (N := 1) (j := 0) dL_law_867 h78b rfl (by decide) (by decide) ?_
  refine xl_topl (nrm v2) ho0 ?_
  refine xl_iload dL_law_868 rfl ?_
  refine xl_nrm ?_
  refine xl_i2l dL_law_870 (nrm_in _) ?_
  refine xl_lcmp dL_law_871 (inIL (nrm_in _)) (inIL (nrm_in _)) ?_
  refine xl_ifeq (tgt := 877) dL_law_872 (by decide) (xcmp_in _ _) (fun _ => xl_goto (tgt := 1775) dL_law_877 (by decide) (xl_ls [(1, vR 0), (2, vR 38), (3, vR 78), (4, vI (i : Int))] ⟨rfl, rfl, rfl, rfl, trivial⟩ (K n1 f2 S1 hLS hiv))) (fun q => absurd ((xcmp_eq _ _).2 rfl) q)
theorem lc_lift (hX : okX g) (h : LSf n f S) (hi : inv S) (hk : i + 8 ≤ k.2.1) (hL : k.2.1 ≤ 4096) (K : ∀ n1 f1 S1, LSf n1 f1 S1 → inv S1 → xl g k rc rs 1775 [(1, vR 0), (2, vR 38), (3, vR 78), (4, vI (i : Int))] [] n1 f1) : xl g k (rc + 401) (rs + 2806) 880 [(1, vR 0), (2, vR 38), (3, vR 78), (4, vI (i : Int))] [] n f := by
  obtain ⟨bn, β, gn, σ, d, as, ps, pb, pu, pr⟩ := S
  have h : LSf n f (mkS bn β gn σ d as ps pb pu pr) := h
  have hi : chn gn σ as := hi
  refine xl_room (rc := rc + 401) (rs := rs + 2806) (rc' := rc + 1) (rs' := rs + 6) (by omega) (by omega) ?_
  refine xl_aload_n dL_law_880 rfl ?_
  refine xl_scr (i := i) (j := 1) (z := i + 1) dL_law_881 dL_law_882 dL_law_884 (Or.inl ⟨rfl, rfl⟩) dL_law_885 dL_law_886 rfl rfl (by omega) hL ?_
  refine xl_aload_n dL_law_887 rfl ?_
  refine xl_callSW (rc := rc) (rs := rs) (mc2 := 1) (ms2 := 6) (As := [vR 0, vI (k.2.2 (i + 1)).toInt, vR 78]) (st := []) dL_law_888 msw_L_124 (by decide) (by decide) (Nat.le_of_ble_eq_true rfl) rfl (wct_lift hX h (in32 _) (fun n1 f1 kk v S1 hr hn ha ho hkk => ?_))
  show xl g k rc rs 891 [(1, vR 0), (2, vR 38), (3, vR 78), (4, vI (i : Int))] [vI kk] n1 f1
  obtain ⟨_, ⟨th, hM⟩, _⟩ := id ha
  obtain ⟨m9, h38, _⟩ := id hM
  refine xl_istore dL_law_891 (by decide) (by decide) ?_
  refine xl_aload_n dL_law_893 rfl ?_
  refine xl_scr (i := i) (j := 1) (z := i + 1) dL_law_894 dL_law_895 dL_law_897 (Or.inl ⟨rfl, rfl⟩) dL_law_898 dL_law_899 rfl rfl (by omega) hL ?_
  refine xl_callV (rc := rc) (rs := rs) (mc2 := 0) (ms2 := 0) (a := 38) (As := [vI (k.2.2 (i + 1)).toInt]) (st := []) dL_law_900 mv_L_126 h38 rfl (by decide) (by decide) (Nat.le_of_ble_eq_true rfl) rfl (mwt_lift hM hi (in32 _) hr (fun f2 v2 hM2 hC2 hv => ?_))
  have hLS := LS_M ha hM2 hC2
  have hiv := iv_lift hM hi hr
  obtain ⟨m2, h38b, hm2, _⟩ := id hM2
  show xl g k rc rs 903 [(5, vI kk), (1, vR 0), (2, vR 38), (3, vR 78), (4, vI (i : Int))] [vI v2] n1 f2
  refine xl_istore dL_law_903 (by decide) (by decide) ?_
  refine xl_aload_n dL_law_905 rfl ?_
  refine xl_callV (rc := rc) (rs := rs) (mc2 := 0) (ms2 := 0) (a := 38) (As := []) (st := []) dL_law_906 mv_L_91 h38b rfl (by decide) (by decide) (Nat.le_of_ble_eq_true rfl) rfl (ct_thrown h38b ?_)
  show xl g k rc rs 909 [(6, vI v2), (5, vI kk), (1, vR 0), (2, vR 38), (3, vR 78), (4, vI (i : Int))] [vI (m2 0)] n1 f2
  refine xl_topi kk hm2.1 ?_
  refine xl_iload dL_law_909 rfl ?_
  refine xl_icmpsame (tgt := 916) dL_law_911 (by decide) ?_
  refine xl_iload dL_law_916 rfl ?_
  refine xl_ifne (tgt := 940) dL_law_918 (by decide) (by unfold inI; omega) (fun _ => xl_goto (tgt := 1775) dL_law_940 (by decide) (xl_ls [(1, vR 0), (2, vR 38), (3, vR 78), (4, vI (i : Int))] ⟨rfl, rfl, rfl, rfl, trivial⟩ (K n1 f2 S1 hLS hiv))) (fun e0 => ?_)
  obtain ⟨o, h78, ho0⟩ := ho e0
  have h78b : f2 78 = some (aL 1 o) := (hC2 78 (by omega)).trans h78
  have ev := hv e0
  subst ev
  refine xl_aload_n dL_law_921 rfl ?_
  refine xl_iconst dL_law_922 ?_
  refine xl_lald (N := 1) (j := 0) dL_law_923 h78b rfl (by decide) (by decide) ?_
  refine xl_topl (nrm v2) ho0 ?_
  refine xl_iload dL_law_924 rfl ?_
  rcases zb_lift hr e0 with rfl | rfl
  · refine xl_ifeq (tgt := 933) dL_law_926 (by decide) (by unfold inI; omega) (fun _ => ?_) (fun q => absurd rfl q)
    refine xl_lconst (z := 0) dL_law_933 (by decide) ?_
    refine xl_lcmp dL_law_934 (inIL (nrm_in _)) (by unfold inL; omega) ?_
    refine xl_ifeq (tgt := 940) dL_law_935 (by decide) (xcmp_in _ _) (fun _ => xl_goto (tgt := 1775) dL_law_940 (by decide) (xl_ls [(1, vR 0), (2, vR 38), (3, vR 78), (4, vI (i : Int))] ⟨rfl, rfl, rfl, rfl, trivial⟩ (K n1 f2 S1 hLS hiv))) (fun q => absurd ((xcmp_eq _ _).2 (by decide)) q)
  · refine xl_ifeq (tgt := 933) dL_law_926 (by decide) (by unfold inI; omega) (fun q => absurd q (by decide)) (fun _ => ?_)
    refine xl_lconst (z := 1) dL_law_929 (by decide) ?_
    refine xl_goto (tgt := 934) dL_law_930 (by decide) ?_
    refine xl_lcmp dL_law_934 (inIL (nrm_in _)) (by unfold inL; omega) ?_
    refine xl_ifeq (tgt := 940) dL_law_935 (by decide) (xcmp_in _ _) (fun _ => xl_goto (tgt := 1775) dL_law_940 (by decide) (xl_ls [(1, vR 0), (2, vR 38), (3, vR 78), (4, vI (i : Int))] ⟨rfl, rfl, rfl, rfl, trivial⟩ (K n1 f2 S1 hLS hiv))) (fun q => absurd ((xcmp_eq _ _).2 (by decide)) q)
theorem lc_turn (hX : okX g) (h : LSf n f S) (hi : inv S) (hk : i + 8 ≤ k.2.1) (hL : k.2.1 ≤ 4096) (K : ∀ n1 f1 S1, LSf n1 f1 S1 → inv S1 → xl g k rc rs 1775 [(1, vR 0), (2, vR 38), (3, vR 78), (4, vI (i : Int))] [] n1 f1) : xl g k (rc + 401) (rs + 2806) 943 [(1, vR 0), (2, vR 38), (3, vR 78), (4, vI (i : Int))] [] n f := by
  obtain ⟨bn, β, gn, σ, d, as, ps, pb, pu, pr⟩ := S
  have h : LSf n f (mkS bn β gn σ d as ps pb pu pr) := h
  have hi : chn gn σ as := hi
  refine xl_room (rc := rc + 401) (rs := rs + 2806) (rc' := rc + 1) (rs' := rs + 6) (by omega) (by omega) ?_
  refine xl_aload_n dL_law_943 rfl ?_
  refine xl_scr (i := i) (j := 1) (z := i + 1) dL_law_944 dL_law_945 dL_law_947 (Or.inl ⟨rfl, rfl⟩) dL_law_948 dL_law_949 rfl rfl (by omega) hL ?_
  refine xl_scr (i := i) (j := 2) (z := i + 2) dL_law_950 dL_law_951 dL_law_953 (Or.inl ⟨rfl, rfl⟩) dL_law_954 dL_law_955 rfl rfl (by omega) hL ?_
  refine xl_scr (i := i) (j := 3) (z := i + 3) dL_law_956 dL_law_957 dL_law_959 (Or.inl ⟨rfl, rfl⟩) dL_law_960 dL_law_961 rfl rfl (by omega) hL ?_
  refine xl_callSW (rc := rc) (rs := rs) (mc2 := 1) (ms2 := 6) (As := [vR 0, vI (k.2.2 (i + 1)).toInt, vI (k.2.2 (i + 2)).toInt, vI (k.2.2 (i + 3)).toInt]) (st := []) dL_law_962 msw_L_127 (by decide) (by decide) (Nat.le_of_ble_eq_true rfl) rfl (wct_turn hX h (in32 _) (in32 _) (in32 _) (fun n1 f1 kk v S1 hr hn ha ho hkk => ?_))
  show xl g k rc rs 965 [(1, vR 0), (2, vR 38), (3, vR 78), (4, vI (i : Int))] [vI kk] n1 f1
  obtain ⟨_, ⟨th, hM⟩, _⟩ := id ha
  obtain ⟨m9, h38, _⟩ := id hM
  refine xl_istore dL_law_965 (by decide) (by decide) ?_
  refine xl_aload_n dL_law_967 rfl ?_
  refine xl_scr (i := i) (j := 1) (z := i + 1) dL_law_968 dL_law_969 dL_law_971 (Or.inl ⟨rfl, rfl⟩) dL_law_972 dL_law_973 rfl rfl (by omega) hL ?_
  refine xl_scr (i := i) (j := 2) (z := i + 2) dL_law_974 dL_law_975 dL_law_977 (Or.inl ⟨rfl, rfl⟩) dL_law_978 dL_law_979 rfl rfl (by omega) hL ?_
  refine xl_scr (i := i) (j := 3) (z := i + 3) dL_law_980 dL_law_981 dL_law_983 (Or.inl ⟨rfl, rfl⟩) dL_law_984 dL_law_985 rfl rfl (by omega) hL ?_
  refine xl_callV (rc := rc) (rs := rs) (mc2 := 0) (ms2 := 0) (a := 38) (As := [vI (k.2.2 (i + 1)).toInt, vI (k.2.2 (i + 2)).toInt, vI (k.2.2 (i + 3)).toInt]) (st := []) dL_law_986 mv_L_130 h38 rfl (by decide) (by decide) (Nat.le_of_ble_eq_true rfl) rfl (mwt_turn hM (in32 _) (in32 _) (in32 _) hr (fun f2 hM2 hC2 => ?_))
  have hLS := LS_M ha hM2 hC2
  have hiv := iv_turn hM hi hr
  obtain ⟨m2, h38b, hm2, _⟩ := id hM2
  show xl g k rc rs 989 [(5, vI kk), (1, vR 0), (2, vR 38), (3, vR 78), (4, vI (i : Int))] [] n1 f2
  refine xl_aload_n dL_law_989 rfl ?_
  refine xl_callV (rc := rc) (rs := rs) (mc2 := 0) (ms2 := 0) (a := 38) (As := []) (st := []) dL_law_990 mv_L_91 h38b rfl (by decide) (by decide) (Nat.le_of_ble_eq_true rfl) rfl (ct_thrown h38b ?_)
  show xl g k rc rs 993 [(5, vI kk), (1, vR 0), (2, vR 38), (3, vR 78), (4, vI (i : Int))] [vI (m2 0)] n1 f2
  refine xl_topi kk hm2.1 ?_
  refine xl_iload dL_law_993 rfl ?_
  refine xl_icmpsame (tgt := 1000) dL_law_995 (by decide) ?_
  exact xl_goto (tgt := 1775) dL_law_1000 (by decide) (xl_ls [(1, vR 0), (2, vR 38), (3, vR 78), (4, vI (i : Int))] ⟨rfl, rfl, rfl, rfl, trivial⟩ (K n1 f2 S1 hLS hiv))
theorem lc_undo (hX : okX g) (h : LSf n f S) (hi : inv S) (hk : i + 8 ≤ k.2.1) (hL : k.2.1 ≤ 4096) (K : ∀ n1 f1 S1, LSf n1 f1 S1 → inv S1 → xl g k rc rs 1775 [(1, vR 0), (2, vR 38), (3, vR 78), (4, vI (i : Int))] [] n1 f1) : xl g k (rc + 401) (rs + 2806) 1003 [(1, vR 0), (2, vR 38), (3, vR 78), (4, vI (i : Int))] [] n f := by
  obtain ⟨bn, β, gn, σ, d, as, ps, pb, pu, pr⟩ := S
  have h : LSf n f (mkS bn β gn σ d as ps pb pu pr) := h
  have hi : chn gn σ as := hi
  refine xl_room (rc := rc + 401) (rs := rs + 2806) (rc' := rc) (rs' := rs) (by omega) (by omega) ?_
  obtain ⟨bo9, so9, tk9, rk9, h0, _⟩ := id h.1
  refine xl_aload_n dL_law_1003 rfl ?_
  refine xl_callV (rc := rc) (rs := rs) (mc2 := 0) (ms2 := 0) (a := 0) (As := []) (st := []) dL_law_1004 mv_L_131 h0 rfl (by decide) (by decide) (Nat.le_of_ble_eq_true rfl) rfl (dct_undo h hi (fun f1 v S1 hr ha => ?_))
  show xl g k rc rs 1007 [(1, vR 0), (2, vR 38), (3, vR 78), (4, vI (i : Int))] [vI v] n f1
  obtain ⟨_, ⟨th, hM⟩, _⟩ := id ha
  obtain ⟨m9, h38, _⟩ := id hM
  refine xl_aload_n dL_law_1007 rfl ?_
  refine xl_callV (rc := rc) (rs := rs) (mc2 := 0) (ms2 := 0) (a := 38) (As := []) (st := [vI v]) dL_law_1008 mv_L_134 h38 rfl (by decide) (by decide) (Nat.le_of_ble_eq_true rfl) rfl (mdt_undo hM hi hr (fun f2 th2 hM2 hC2 => ?_))
  show xl g k rc rs 1011 [(1, vR 0), (2, vR 38), (3, vR 78), (4, vI (i : Int))] [vI v, vI v] n f2
  exact xl_icmpsame (tgt := 1775) dL_law_1011 (by decide) (K n f2 S1 (LS_M ha hM2 hC2) (jv_undo hi hr))
theorem lc_told (hX : okX g) (h : LSf n f S) (hi : inv S) (hk : i + 8 ≤ k.2.1) (hL : k.2.1 ≤ 4096) (K : ∀ n1 f1 S1, LSf n1 f1 S1 → inv S1 → xl g k rc rs 1775 [(1, vR 0), (2, vR 38), (3, vR 78), (4, vI (i : Int))] [] n1 f1) : xl g k (rc + 401) (rs + 2806) 1016 [(1, vR 0), (2, vR 38), (3, vR 78), (4, vI (i : Int))] [] n f := by
  obtain ⟨bn, β, gn, σ, d, as, ps, pb, pu, pr⟩ := S
  have h : LSf n f (mkS bn β gn σ d as ps pb pu pr) := h
  have hi : chn gn σ as := hi
  refine xl_room (rc := rc + 401) (rs := rs + 2806) (rc' := rc + 2) (rs' := rs + 12) (by omega) (by omega) ?_
  refine xl_aload_n dL_law_1016 rfl ?_
  refine xl_scr (i := i) (j := 1) (z := i + 1) dL_law_1017 dL_law_1018 dL_law_1020 (Or.inl ⟨rfl, rfl⟩) dL_law_1021 dL_law_1022 rfl rfl (by omega) hL ?_
  refine xl_scr (i := i) (j := 2) (z := i + 2) dL_law_1023 dL_law_1024 dL_law_1026 (Or.inl ⟨rfl, rfl⟩) dL_law_1027 dL_law_1028 rfl rfl (by omega) hL ?_
  refine xl_aload_n dL_law_1029 rfl ?_
  refine xl_callSW (rc := rc) (rs := rs) (mc2 := 2) (ms2 := 12) (As := [vR 0, vI (k.2.2 (i + 1)).toInt, vI (k.2.2 (i + 2)).toInt, vR 78]) (st := []) dL_law_1030 msw_L_135 (by decide) (by decide) (Nat.le_of_ble_eq_true rfl) rfl (wct_told hX h (in32 _) (in32 _) (fun n1 f1 kk v S1 hr hn ha ho hkk => ?_))
  show xl g k rc rs 1033 [(1, vR 0), (2, vR 38), (3, vR 78), (4, vI (i : Int))] [vI kk] n1 f1
  obtain ⟨_, ⟨th, hM⟩, _⟩ := id ha
  obtain ⟨m9, h38, _⟩ := id hM
  refine xl_istore dL_law_1033 (by decide) (by decide) ?_
  refine xl_aload_n dL_law_1035 rfl ?_
  refine xl_scr (i := i) (j := 1) (z := i + 1) dL_law_1036 dL_law_1037 dL_law_1039 (Or.inl ⟨rfl, rfl⟩) dL_law_1040 dL_law_1041 rfl rfl (by omega) hL ?_
  refine xl_scr (i := i) (j := 2) (z := i + 2) dL_law_1042 dL_law_1043 dL_law_1045 (Or.inl ⟨rfl, rfl⟩) dL_law_1046 dL_law_1047 rfl rfl (by omega) hL ?_
  refine xl_callV (rc := rc) (rs := rs) (mc2 := 0) (ms2 := 0) (a := 38) (As := [vI (k.2.2 (i + 1)).toInt, vI (k.2.2 (i + 2)).toInt]) (st := []) dL_law_1048 mv_L_137 h38 rfl (by decide) (by decide) (Nat.le_of_ble_eq_true rfl) rfl (mwt_told hM (in32 _) (in32 _) hr (fun f2 v2 hM2 hC2 hv => ?_))
  have hLS := LS_M ha hM2 hC2
  have hiv := iv_told hM hi hr
  obtain ⟨m2, h38b, hm2, _⟩ := id hM2
  show xl g k rc rs 1051 [(5, vI kk), (1, vR 0), (2, vR 38), (3, vR 78), (4, vI (i : Int))] [vI v2] n1 f2
  refine xl_istore dL_law_1051 (by decide) (by decide) ?_
  refine xl_aload_n dL_law_1053 rfl ?_
  refine xl_callV (rc := rc) (rs := rs) (mc2 := 0) (ms2 := 0) (a := 38) (As := []) (st := []) dL_law_1054 mv_L_91 h38b rfl (by decide) (by decide) (Nat.le_of_ble_eq_true rfl) rfl (ct_thrown h38b ?_)
  show xl g k rc rs 1057 [(6, vI v2), (5, vI kk), (1, vR 0), (2, vR 38), (3, vR 78), (4, vI (i : Int))] [vI (m2 0)] n1 f2
  refine xl_topi kk hm2.1 ?_
  refine xl_iload dL_law_1057 rfl ?_
  refine xl_icmpsame (tgt := 1064) dL_law_1059 (by decide) ?_
  refine xl_iload dL_law_1064 rfl ?_
  refine xl_ifne (tgt := 1081) dL_law_1066 (by decide) (by unfold inI; omega) (fun _ => xl_goto (tgt := 1775) dL_law_1081 (by decide) (xl_ls [(1, vR 0), (2, vR 38), (3, vR 78), (4, vI (i : Int))] ⟨rfl, rfl, rfl, rfl, trivial⟩ (K n1 f2 S1 hLS hiv))) (fun e0 => ?_)
  obtain ⟨o, h78, ho0⟩ := ho e0
  have h78b : f2 78 = some (aL 1 o) := (hC2 78 (by omega)).trans h78
  have ev := hv e0
  subst ev
  refine xl_aload_n dL_law_1069 rfl ?_
  refine xl_iconst dL_law_1070 ?_
  refine xl_lald (N := 1) (j := 0) dL_law_1071 h78b rfl (by decide) (by decide) ?_
  refine xl_topl (nrm v2) ho0 ?_
  refine xl_iload dL_law_1072 rfl ?_
  refine xl_nrm ?_
  refine xl_i2l dL_law_1074 (nrm_in _) ?_
  refine xl_lcmp dL_law_1075 (inIL (nrm_in _)) (inIL (nrm_in _)) ?_
  refine xl_ifeq (tgt := 1081) dL_law_1076 (by decide) (xcmp_in _ _) (fun _ => xl_goto (tgt := 1775) dL_law_1081 (by decide) (xl_ls [(1, vR 0), (2, vR 38), (3, vR 78), (4, vI (i : Int))] ⟨rfl, rfl, rfl, rfl, trivial⟩ (K n1 f2 S1 hLS hiv))) (fun q => absurd ((xcmp_eq _ _).2 rfl) q)
theorem lc_count (hX : okX g) (h : LSf n f S) (hi : inv S) (hk : i + 8 ≤ k.2.1) (hL : k.2.1 ≤ 4096) (K : ∀ n1 f1 S1, LSf n1 f1 S1 → inv S1 → xl g k rc rs 1775 [(1, vR 0), (2, vR 38), (3, vR 78), (4, vI (i : Int))] [] n1 f1) : xl g k (rc + 401) (rs + 2806) 1084 [(1, vR 0), (2, vR 38), (3, vR 78), (4, vI (i : Int))] [] n f := by
  obtain ⟨bn, β, gn, σ, d, as, ps, pb, pu, pr⟩ := S
  have h : LSf n f (mkS bn β gn σ d as ps pb pu pr) := h
  have hi : chn gn σ as := hi
  refine xl_room (rc := rc + 401) (rs := rs + 2806) (rc' := rc) (rs' := rs) (by omega) (by omega) ?_
  obtain ⟨bo9, so9, tk9, rk9, h0, _⟩ := id h.1
  refine xl_aload_n dL_law_1084 rfl ?_
  refine xl_scr (i := i) (j := 1) (z := i + 1) dL_law_1085 dL_law_1086 dL_law_1088 (Or.inl ⟨rfl, rfl⟩) dL_law_1089 dL_law_1090 rfl rfl (by omega) hL ?_
  refine xl_callV (rc := rc) (rs := rs) (mc2 := 0) (ms2 := 0) (a := 0) (As := [vI (k.2.2 (i + 1)).toInt]) (st := []) dL_law_1091 mv_L_138 h0 rfl (by decide) (by decide) (Nat.le_of_ble_eq_true rfl) rfl (dct_count h hi (in32 _) (fun f1 v S1 hr ha => ?_))
  show xl g k rc rs 1094 [(1, vR 0), (2, vR 38), (3, vR 78), (4, vI (i : Int))] [vI v] n f1
  obtain ⟨_, ⟨th, hM⟩, _⟩ := id ha
  obtain ⟨m9, h38, _⟩ := id hM
  refine xl_aload_n dL_law_1094 rfl ?_
  refine xl_scr (i := i) (j := 1) (z := i + 1) dL_law_1095 dL_law_1096 dL_law_1098 (Or.inl ⟨rfl, rfl⟩) dL_law_1099 dL_law_1100 rfl rfl (by omega) hL ?_
  refine xl_callV (rc := rc) (rs := rs) (mc2 := 0) (ms2 := 0) (a := 38) (As := [vI (k.2.2 (i + 1)).toInt]) (st := [vI v]) dL_law_1101 mv_L_141 h38 rfl (by decide) (by decide) (Nat.le_of_ble_eq_true rfl) rfl (mdt_count hM hi (in32 _) hr (fun f2 th2 hM2 hC2 => ?_))
  show xl g k rc rs 1104 [(1, vR 0), (2, vR 38), (3, vR 78), (4, vI (i : Int))] [vI v, vI v] n f2
  exact xl_icmpsame (tgt := 1775) dL_law_1104 (by decide) (K n f2 S1 (LS_M ha hM2 hC2) (jv_count hi hr))
theorem lc_after (hX : okX g) (h : LSf n f S) (hi : inv S) (hk : i + 8 ≤ k.2.1) (hL : k.2.1 ≤ 4096) (K : ∀ n1 f1 S1, LSf n1 f1 S1 → inv S1 → xl g k rc rs 1775 [(1, vR 0), (2, vR 38), (3, vR 78), (4, vI (i : Int))] [] n1 f1) : xl g k (rc + 401) (rs + 2806) 1109 [(1, vR 0), (2, vR 38), (3, vR 78), (4, vI (i : Int))] [] n f := by
  obtain ⟨bn, β, gn, σ, d, as, ps, pb, pu, pr⟩ := S
  have h : LSf n f (mkS bn β gn σ d as ps pb pu pr) := h
  have hi : chn gn σ as := hi
  refine xl_room (rc := rc + 401) (rs := rs + 2806) (rc' := rc) (rs' := rs) (by omega) (by omega) ?_
  obtain ⟨bo9, so9, tk9, rk9, h0, _⟩ := id h.1
  refine xl_aload_n dL_law_1109 rfl ?_
  refine xl_scr (i := i) (j := 1) (z := i + 1) dL_law_1110 dL_law_1111 dL_law_1113 (Or.inl ⟨rfl, rfl⟩) dL_law_1114 dL_law_1115 rfl rfl (by omega) hL ?_
  refine xl_callV (rc := rc) (rs := rs) (mc2 := 0) (ms2 := 0) (a := 0) (As := [vI (k.2.2 (i + 1)).toInt]) (st := []) dL_law_1116 mv_L_142 h0 rfl (by decide) (by decide) (Nat.le_of_ble_eq_true rfl) rfl (dct_after h hi (in32 _) (fun f1 v S1 hr ha => ?_))
  show xl g k rc rs 1119 [(1, vR 0), (2, vR 38), (3, vR 78), (4, vI (i : Int))] [vI v] n f1
  obtain ⟨_, ⟨th, hM⟩, _⟩ := id ha
  obtain ⟨m9, h38, _⟩ := id hM
  refine xl_aload_n dL_law_1119 rfl ?_
  refine xl_scr (i := i) (j := 1) (z := i + 1) dL_law_1120 dL_law_1121 dL_law_1123 (Or.inl ⟨rfl, rfl⟩) dL_law_1124 dL_law_1125 rfl rfl (by omega) hL ?_
  refine xl_callV (rc := rc) (rs := rs) (mc2 := 0) (ms2 := 0) (a := 38) (As := [vI (k.2.2 (i + 1)).toInt]) (st := [vI v]) dL_law_1126 mv_L_145 h38 rfl (by decide) (by decide) (Nat.le_of_ble_eq_true rfl) rfl (mdt_after hM hi (in32 _) hr (fun f2 th2 hM2 hC2 => ?_))
  show xl g k rc rs 1129 [(1, vR 0), (2, vR 38), (3, vR 78), (4, vI (i : Int))] [vI v, vI v] n f2
  exact xl_icmpsame (tgt := 1775) dL_law_1129 (by decide) (K n f2 S1 (LS_M ha hM2 hC2) (jv_after hi hr))
theorem lc_bars (hX : okX g) (h : LSf n f S) (hi : inv S) (hk : i + 8 ≤ k.2.1) (hL : k.2.1 ≤ 4096) (K : ∀ n1 f1 S1, LSf n1 f1 S1 → inv S1 → xl g k rc rs 1775 [(1, vR 0), (2, vR 38), (3, vR 78), (4, vI (i : Int))] [] n1 f1) : xl g k (rc + 401) (rs + 2806) 1134 [(1, vR 0), (2, vR 38), (3, vR 78), (4, vI (i : Int))] [] n f := by
  obtain ⟨bn, β, gn, σ, d, as, ps, pb, pu, pr⟩ := S
  have h : LSf n f (mkS bn β gn σ d as ps pb pu pr) := h
  have hi : chn gn σ as := hi
  refine xl_room (rc := rc + 401) (rs := rs + 2806) (rc' := rc + 2) (rs' := rs + 12) (by omega) (by omega) ?_
  refine xl_aload_n dL_law_1134 rfl ?_
  refine xl_scr (i := i) (j := 1) (z := i + 1) dL_law_1135 dL_law_1136 dL_law_1138 (Or.inl ⟨rfl, rfl⟩) dL_law_1139 dL_law_1140 rfl rfl (by omega) hL ?_
  refine xl_scr (i := i) (j := 2) (z := i + 2) dL_law_1141 dL_law_1142 dL_law_1144 (Or.inl ⟨rfl, rfl⟩) dL_law_1145 dL_law_1146 rfl rfl (by omega) hL ?_
  refine xl_aload_n dL_law_1147 rfl ?_
  refine xl_callSW (rc := rc) (rs := rs) (mc2 := 2) (ms2 := 12) (As := [vR 0, vI (k.2.2 (i + 1)).toInt, vI (k.2.2 (i + 2)).toInt, vR 78]) (st := []) dL_law_1148 msw_L_146 (by decide) (by decide) (Nat.le_of_ble_eq_true rfl) rfl (wct_bars hX h (in32 _) (in32 _) (fun n1 f1 kk v S1 hr hn ha ho hkk => ?_))
  show xl g k rc rs 1151 [(1, vR 0), (2, vR 38), (3, vR 78), (4, vI (i : Int))] [vI kk] n1 f1
  obtain ⟨_, ⟨th, hM⟩, _⟩ := id ha
  obtain ⟨m9, h38, _⟩ := id hM
  refine xl_istore dL_law_1151 (by decide) (by decide) ?_
  refine xl_aload_n dL_law_1153 rfl ?_
  refine xl_scr (i := i) (j := 1) (z := i + 1) dL_law_1154 dL_law_1155 dL_law_1157 (Or.inl ⟨rfl, rfl⟩) dL_law_1158 dL_law_1159 rfl rfl (by omega) hL ?_
  refine xl_scr (i := i) (j := 2) (z := i + 2) dL_law_1160 dL_law_1161 dL_law_1163 (Or.inl ⟨rfl, rfl⟩) dL_law_1164 dL_law_1165 rfl rfl (by omega) hL ?_
  refine xl_callV (rc := rc) (rs := rs) (mc2 := 0) (ms2 := 0) (a := 38) (As := [vI (k.2.2 (i + 1)).toInt, vI (k.2.2 (i + 2)).toInt]) (st := []) dL_law_1166 mv_L_148 h38 rfl (by decide) (by decide) (Nat.le_of_ble_eq_true rfl) rfl (mwt_bars hM hi (in32 _) (in32 _) hr (fun f2 v2 hM2 hC2 hv => ?_))
  have hLS := LS_M ha hM2 hC2
  have hiv := iv_bars hM hi hr
  obtain ⟨m2, h38b, hm2, _⟩ := id hM2
  show xl g k rc rs 1169 [(5, vI kk), (1, vR 0), (2, vR 38), (3, vR 78), (4, vI (i : Int))] [vI v2] n1 f2
  refine xl_istore dL_law_1169 (by decide) (by decide) ?_
  refine xl_aload_n dL_law_1171 rfl ?_
  refine xl_callV (rc := rc) (rs := rs) (mc2 := 0) (ms2 := 0) (a := 38) (As := []) (st := []) dL_law_1172 mv_L_91 h38b rfl (by decide) (by decide) (Nat.le_of_ble_eq_true rfl) rfl (ct_thrown h38b ?_)
  show xl g k rc rs 1175 [(6, vI v2), (5, vI kk), (1, vR 0), (2, vR 38), (3, vR 78), (4, vI (i : Int))] [vI (m2 0)] n1 f2
  refine xl_topi kk hm2.1 ?_
  refine xl_iload dL_law_1175 rfl ?_
  refine xl_icmpsame (tgt := 1182) dL_law_1177 (by decide) ?_
  refine xl_iload dL_law_1182 rfl ?_
  refine xl_ifne (tgt := 1206) dL_law_1184 (by decide) (by unfold inI; omega) (fun _ => xl_goto (tgt := 1775) dL_law_1206 (by decide) (xl_ls [(1, vR 0), (2, vR 38), (3, vR 78), (4, vI (i : Int))] ⟨rfl, rfl, rfl, rfl, trivial⟩ (K n1 f2 S1 hLS hiv))) (fun e0 => ?_)
  obtain ⟨o, h78, ho0⟩ := ho e0
  have h78b : f2 78 = some (aL 1 o) := (hC2 78 (by omega)).trans h78
  have ev := hv e0
  subst ev
  refine xl_aload_n dL_law_1187 rfl ?_
  refine xl_iconst dL_law_1188 ?_
  refine xl_lald (N := 1) (j := 0) dL_law_1189 h78b rfl (by decide) (by decide) ?_
  refine xl_topl (nrm v2) ho0 ?_
  refine xl_iload dL_law_1190 rfl ?_
  rcases zb_bars hr e0 with rfl | rfl
  · refine xl_ifeq (tgt := 1199) dL_law_1192 (by decide) (by unfold inI; omega) (fun _ => ?_) (fun q => absurd rfl q)
    refine xl_lconst (z := 0) dL_law_1199 (by decide) ?_
    refine xl_lcmp dL_law_1200 (inIL (nrm_in _)) (by unfold inL; omega) ?_
    refine xl_ifeq (tgt := 1206) dL_law_1201 (by decide) (xcmp_in _ _) (fun _ => xl_goto (tgt := 1775) dL_law_1206 (by decide) (xl_ls [(1, vR 0), (2, vR 38), (3, vR 78), (4, vI (i : Int))] ⟨rfl, rfl, rfl, rfl, trivial⟩ (K n1 f2 S1 hLS hiv))) (fun q => absurd ((xcmp_eq _ _).2 (by decide)) q)
  · refine xl_ifeq (tgt := 1199) dL_law_1192 (by decide) (by unfold inI; omega) (fun q => absurd q (by decide)) (fun _ => ?_)
    refine xl_lconst (z := 1) dL_law_1195 (by decide) ?_
    refine xl_goto (tgt := 1200) dL_law_1196 (by decide) ?_
    refine xl_lcmp dL_law_1200 (inIL (nrm_in _)) (by unfold inL; omega) ?_
    refine xl_ifeq (tgt := 1206) dL_law_1201 (by decide) (xcmp_in _ _) (fun _ => xl_goto (tgt := 1775) dL_law_1206 (by decide) (xl_ls [(1, vR 0), (2, vR 38), (3, vR 78), (4, vI (i : Int))] ⟨rfl, rfl, rfl, rfl, trivial⟩ (K n1 f2 S1 hLS hiv))) (fun q => absurd ((xcmp_eq _ _).2 (by decide)) q)
theorem lc_crossings (hX : okX g) (h : LSf n f S) (hi : inv S) (hk : i + 8 ≤ k.2.1) (hL : k.2.1 ≤ 4096) (K : ∀ n1 f1 S1, LSf n1 f1 S1 → inv S1 → xl g k rc rs 1775 [(1, vR 0), (2, vR 38), (3, vR 78), (4, vI (i : Int))] [] n1 f1) : xl g k (rc + 401) (rs + 2806) 1209 [(1, vR 0), (2, vR 38), (3, vR 78), (4, vI (i : Int))] [] n f := by
  obtain ⟨bn, β, gn, σ, d, as, ps, pb, pu, pr⟩ := S
  have h : LSf n f (mkS bn β gn σ d as ps pb pu pr) := h
  have hi : chn gn σ as := hi
  refine xl_room (rc := rc + 401) (rs := rs + 2806) (rc' := rc + 401) (rs' := rs + 2806) (by omega) (by omega) ?_
  refine xl_aload_n dL_law_1209 rfl ?_
  refine xl_scr (i := i) (j := 1) (z := i + 1) dL_law_1210 dL_law_1211 dL_law_1213 (Or.inl ⟨rfl, rfl⟩) dL_law_1214 dL_law_1215 rfl rfl (by omega) hL ?_
  refine xl_aload_n dL_law_1216 rfl ?_
  refine xl_callSW (rc := rc) (rs := rs) (mc2 := 401) (ms2 := 2806) (As := [vR 0, vI (k.2.2 (i + 1)).toInt, vR 78]) (st := []) dL_law_1217 msw_L_149 (by decide) (by decide) (Nat.le_of_ble_eq_true rfl) rfl (wct_crossings hX h (in32 _) (fun n1 f1 kk v S1 hr hn ha ho hkk => ?_))
  show xl g k rc rs 1220 [(1, vR 0), (2, vR 38), (3, vR 78), (4, vI (i : Int))] [vI kk] n1 f1
  obtain ⟨_, ⟨th, hM⟩, _⟩ := id ha
  obtain ⟨m9, h38, _⟩ := id hM
  refine xl_istore dL_law_1220 (by decide) (by decide) ?_
  refine xl_aload_n dL_law_1222 rfl ?_
  refine xl_scr (i := i) (j := 1) (z := i + 1) dL_law_1223 dL_law_1224 dL_law_1226 (Or.inl ⟨rfl, rfl⟩) dL_law_1227 dL_law_1228 rfl rfl (by omega) hL ?_
  refine xl_callV (rc := rc) (rs := rs) (mc2 := 0) (ms2 := 0) (a := 38) (As := [vI (k.2.2 (i + 1)).toInt]) (st := []) dL_law_1229 mv_L_151 h38 rfl (by decide) (by decide) (Nat.le_of_ble_eq_true rfl) rfl (mwt_crossings hM hi (in32 _) hr (fun f2 v2 hM2 hC2 hv => ?_))
  have hLS := LS_M ha hM2 hC2
  have hiv := iv_crossings hM hi hr
  obtain ⟨m2, h38b, hm2, _⟩ := id hM2
  show xl g k rc rs 1232 [(5, vI kk), (1, vR 0), (2, vR 38), (3, vR 78), (4, vI (i : Int))] [vI v2] n1 f2
  refine xl_istore dL_law_1232 (by decide) (by decide) ?_
  refine xl_aload_n dL_law_1234 rfl ?_
  refine xl_callV (rc := rc) (rs := rs) (mc2 := 0) (ms2 := 0) (a := 38) (As := []) (st := []) dL_law_1235 mv_L_91 h38b rfl (by decide) (by decide) (Nat.le_of_ble_eq_true rfl) rfl (ct_thrown h38b ?_)
  show xl g k rc rs 1238 [(6, vI v2), (5, vI kk), (1, vR 0), (2, vR 38), (3, vR 78), (4, vI (i : Int))] [vI (m2 0)] n1 f2
  refine xl_topi kk hm2.1 ?_
  refine xl_iload dL_law_1238 rfl ?_
  refine xl_icmpsame (tgt := 1245) dL_law_1240 (by decide) ?_
  refine xl_iload dL_law_1245 rfl ?_
  refine xl_ifne (tgt := 1262) dL_law_1247 (by decide) (by unfold inI; omega) (fun _ => xl_goto (tgt := 1775) dL_law_1262 (by decide) (xl_ls [(1, vR 0), (2, vR 38), (3, vR 78), (4, vI (i : Int))] ⟨rfl, rfl, rfl, rfl, trivial⟩ (K n1 f2 S1 hLS hiv))) (fun e0 => ?_)
  obtain ⟨o, h78, ho0⟩ := ho e0
  have h78b : f2 78 = some (aL 1 o) := (hC2 78 (by omega)).trans h78
  have ev := hv e0
  subst ev
  refine xl_aload_n dL_law_1250 rfl ?_
  refine xl_iconst dL_law_1251 ?_
  refine xl_lald (N := 1) (j := 0) dL_law_1252 h78b rfl (by decide) (by decide) ?_
  refine xl_topl (nrm v2) ho0 ?_
  refine xl_iload dL_law_1253 rfl ?_
  refine xl_nrm ?_
  refine xl_i2l dL_law_1255 (nrm_in _) ?_
  refine xl_lcmp dL_law_1256 (inIL (nrm_in _)) (inIL (nrm_in _)) ?_
  refine xl_ifeq (tgt := 1262) dL_law_1257 (by decide) (xcmp_in _ _) (fun _ => xl_goto (tgt := 1775) dL_law_1262 (by decide) (xl_ls [(1, vR 0), (2, vR 38), (3, vR 78), (4, vI (i : Int))] ⟨rfl, rfl, rfl, rfl, trivial⟩ (K n1 f2 S1 hLS hiv))) (fun q => absurd ((xcmp_eq _ _).2 rfl) q)
theorem lc_crossing (hX : okX g) (h : LSf n f S) (hi : inv S) (hk : i + 8 ≤ k.2.1) (hL : k.2.1 ≤ 4096) (K : ∀ n1 f1 S1, LSf n1 f1 S1 → inv S1 → xl g k rc rs 1775 [(1, vR 0), (2, vR 38), (3, vR 78), (4, vI (i : Int))] [] n1 f1) : xl g k (rc + 401) (rs + 2806) 1265 [(1, vR 0), (2, vR 38), (3, vR 78), (4, vI (i : Int))] [] n f := by
  obtain ⟨bn, β, gn, σ, d, as, ps, pb, pu, pr⟩ := S
  have h : LSf n f (mkS bn β gn σ d as ps pb pu pr) := h
  have hi : chn gn σ as := hi
  refine xl_room (rc := rc + 401) (rs := rs + 2806) (rc' := rc + 401) (rs' := rs + 2806) (by omega) (by omega) ?_
  refine xl_aload_n dL_law_1265 rfl ?_
  refine xl_scr (i := i) (j := 1) (z := i + 1) dL_law_1266 dL_law_1267 dL_law_1269 (Or.inl ⟨rfl, rfl⟩) dL_law_1270 dL_law_1271 rfl rfl (by omega) hL ?_
  refine xl_scr (i := i) (j := 2) (z := i + 2) dL_law_1272 dL_law_1273 dL_law_1275 (Or.inl ⟨rfl, rfl⟩) dL_law_1276 dL_law_1277 rfl rfl (by omega) hL ?_
  refine xl_scr (i := i) (j := 3) (z := i + 3) dL_law_1278 dL_law_1279 dL_law_1281 (Or.inl ⟨rfl, rfl⟩) dL_law_1282 dL_law_1283 rfl rfl (by omega) hL ?_
  refine xl_aload_n dL_law_1284 rfl ?_
  refine xl_callSW (rc := rc) (rs := rs) (mc2 := 401) (ms2 := 2806) (As := [vR 0, vI (k.2.2 (i + 1)).toInt, vI (k.2.2 (i + 2)).toInt, vI (k.2.2 (i + 3)).toInt, vR 78]) (st := []) dL_law_1285 msw_L_152 (by decide) (by decide) (Nat.le_of_ble_eq_true rfl) rfl (wct_crossing hX h (in32 _) (in32 _) (in32 _) (fun n1 f1 kk v S1 hr hn ha ho hkk => ?_))
  show xl g k rc rs 1288 [(1, vR 0), (2, vR 38), (3, vR 78), (4, vI (i : Int))] [vI kk] n1 f1
  obtain ⟨_, ⟨th, hM⟩, _⟩ := id ha
  obtain ⟨m9, h38, _⟩ := id hM
  refine xl_istore dL_law_1288 (by decide) (by decide) ?_
  refine xl_aload_n dL_law_1290 rfl ?_
  refine xl_scr (i := i) (j := 1) (z := i + 1) dL_law_1291 dL_law_1292 dL_law_1294 (Or.inl ⟨rfl, rfl⟩) dL_law_1295 dL_law_1296 rfl rfl (by omega) hL ?_
  refine xl_scr (i := i) (j := 2) (z := i + 2) dL_law_1297 dL_law_1298 dL_law_1300 (Or.inl ⟨rfl, rfl⟩) dL_law_1301 dL_law_1302 rfl rfl (by omega) hL ?_
  refine xl_scr (i := i) (j := 3) (z := i + 3) dL_law_1303 dL_law_1304 dL_law_1306 (Or.inl ⟨rfl, rfl⟩) dL_law_1307 dL_law_1308 rfl rfl (by omega) hL ?_
  refine xl_callV (rc := rc) (rs := rs) (mc2 := 0) (ms2 := 0) (a := 38) (As := [vI (k.2.2 (i + 1)).toInt, vI (k.2.2 (i + 2)).toInt, vI (k.2.2 (i + 3)).toInt]) (st := []) dL_law_1309 mv_L_154 h38 rfl (by decide) (by decide) (Nat.le_of_ble_eq_true rfl) rfl (mwt_crossing hM hi (in32 _) (in32 _) (in32 _) hr (fun f2 v2 hM2 hC2 hv => ?_))
  have hLS := LS_M ha hM2 hC2
  have hiv := iv_crossing hM hi hr
  obtain ⟨m2, h38b, hm2, _⟩ := id hM2
  show xl g k rc rs 1312 [(5, vI kk), (1, vR 0), (2, vR 38), (3, vR 78), (4, vI (i : Int))] [vI v2] n1 f2
  refine xl_istore dL_law_1312 (by decide) (by decide) ?_
  refine xl_aload_n dL_law_1314 rfl ?_
  refine xl_callV (rc := rc) (rs := rs) (mc2 := 0) (ms2 := 0) (a := 38) (As := []) (st := []) dL_law_1315 mv_L_91 h38b rfl (by decide) (by decide) (Nat.le_of_ble_eq_true rfl) rfl (ct_thrown h38b ?_)
  show xl g k rc rs 1318 [(6, vI v2), (5, vI kk), (1, vR 0), (2, vR 38), (3, vR 78), (4, vI (i : Int))] [vI (m2 0)] n1 f2
  refine xl_topi kk hm2.1 ?_
  refine xl_iload dL_law_1318 rfl ?_
  refine xl_icmpsame (tgt := 1325) dL_law_1320 (by decide) ?_
  refine xl_iload dL_law_1325 rfl ?_
  refine xl_ifne (tgt := 1342) dL_law_1327 (by decide) (by unfold inI; omega) (fun _ => xl_goto (tgt := 1775) dL_law_1342 (by decide) (xl_ls [(1, vR 0), (2, vR 38), (3, vR 78), (4, vI (i : Int))] ⟨rfl, rfl, rfl, rfl, trivial⟩ (K n1 f2 S1 hLS hiv))) (fun e0 => ?_)
  obtain ⟨o, h78, ho0⟩ := ho e0
  have h78b : f2 78 = some (aL 1 o) := (hC2 78 (by omega)).trans h78
  have ev := hv e0
  subst ev
  refine xl_aload_n dL_law_1330 rfl ?_
  refine xl_iconst dL_law_1331 ?_
  refine xl_lald (N := 1) (j := 0) dL_law_1332 h78b rfl (by decide) (by decide) ?_
  refine xl_topl (nrm v2) ho0 ?_
  refine xl_iload dL_law_1333 rfl ?_
  refine xl_nrm ?_
  refine xl_i2l dL_law_1335 (nrm_in _) ?_
  refine xl_lcmp dL_law_1336 (inIL (nrm_in _)) (inIL (nrm_in _)) ?_
  refine xl_ifeq (tgt := 1342) dL_law_1337 (by decide) (xcmp_in _ _) (fun _ => xl_goto (tgt := 1775) dL_law_1342 (by decide) (xl_ls [(1, vR 0), (2, vR 38), (3, vR 78), (4, vI (i : Int))] ⟨rfl, rfl, rfl, rfl, trivial⟩ (K n1 f2 S1 hLS hiv))) (fun q => absurd ((xcmp_eq _ _).2 rfl) q)
theorem lc_print (hX : okX g) (h : LSf n f S) (hi : inv S) (hk : i + 8 ≤ k.2.1) (hL : k.2.1 ≤ 4096) (K : ∀ n1 f1 S1, LSf n1 f1 S1 → inv S1 → xl g k rc rs 1775 [(1, vR 0), (2, vR 38), (3, vR 78), (4, vI (i : Int))] [] n1 f1) : xl g k (rc + 401) (rs + 2806) 1345 [(1, vR 0), (2, vR 38), (3, vR 78), (4, vI (i : Int))] [] n f := by
  obtain ⟨bn, β, gn, σ, d, as, ps, pb, pu, pr⟩ := S
  have h : LSf n f (mkS bn β gn σ d as ps pb pu pr) := h
  have hi : chn gn σ as := hi
  refine xl_room (rc := rc + 401) (rs := rs + 2806) (rc' := rc + 401) (rs' := rs + 2806) (by omega) (by omega) ?_
  refine xl_aload_n dL_law_1345 rfl ?_
  refine xl_scr (i := i) (j := 1) (z := i + 1) dL_law_1346 dL_law_1347 dL_law_1349 (Or.inl ⟨rfl, rfl⟩) dL_law_1350 dL_law_1351 rfl rfl (by omega) hL ?_
  refine xl_scr (i := i) (j := 2) (z := i + 2) dL_law_1352 dL_law_1353 dL_law_1355 (Or.inl ⟨rfl, rfl⟩) dL_law_1356 dL_law_1357 rfl rfl (by omega) hL ?_
  refine xl_scr (i := i) (j := 3) (z := i + 3) dL_law_1358 dL_law_1359 dL_law_1361 (Or.inl ⟨rfl, rfl⟩) dL_law_1362 dL_law_1363 rfl rfl (by omega) hL ?_
  refine xl_aload_n dL_law_1364 rfl ?_
  refine xl_callSW (rc := rc) (rs := rs) (mc2 := 401) (ms2 := 2806) (As := [vR 0, vI (k.2.2 (i + 1)).toInt, vI (k.2.2 (i + 2)).toInt, vI (k.2.2 (i + 3)).toInt, vR 78]) (st := []) dL_law_1365 msw_L_155 (by decide) (by decide) (Nat.le_of_ble_eq_true rfl) rfl (wct_print hX h (in32 _) (in32 _) (in32 _) (fun n1 f1 kk v S1 hr hn ha ho hkk => ?_))
  show xl g k rc rs 1368 [(1, vR 0), (2, vR 38), (3, vR 78), (4, vI (i : Int))] [vI kk] n1 f1
  obtain ⟨_, ⟨th, hM⟩, _⟩ := id ha
  obtain ⟨m9, h38, _⟩ := id hM
  refine xl_istore dL_law_1368 (by decide) (by decide) ?_
  refine xl_aload_n dL_law_1370 rfl ?_
  refine xl_scr (i := i) (j := 1) (z := i + 1) dL_law_1371 dL_law_1372 dL_law_1374 (Or.inl ⟨rfl, rfl⟩) dL_law_1375 dL_law_1376 rfl rfl (by omega) hL ?_
  refine xl_scr (i := i) (j := 2) (z := i + 2) dL_law_1377 dL_law_1378 dL_law_1380 (Or.inl ⟨rfl, rfl⟩) dL_law_1381 dL_law_1382 rfl rfl (by omega) hL ?_
  refine xl_scr (i := i) (j := 3) (z := i + 3) dL_law_1383 dL_law_1384 dL_law_1386 (Or.inl ⟨rfl, rfl⟩) dL_law_1387 dL_law_1388 rfl rfl (by omega) hL ?_
  refine xl_callV (rc := rc) (rs := rs) (mc2 := 0) (ms2 := 0) (a := 38) (As := [vI (k.2.2 (i + 1)).toInt, vI (k.2.2 (i + 2)).toInt, vI (k.2.2 (i + 3)).toInt]) (st := []) dL_law_1389 mv_L_157 h38 rfl (by decide) (by decide) (Nat.le_of_ble_eq_true rfl) rfl (mwt_print hM hi (in32 _) (in32 _) (in32 _) hr (fun f2 v2 hM2 hC2 hv => ?_))
  have hLS := LS_M ha hM2 hC2
  have hiv := iv_print hM hi hr
  obtain ⟨m2, h38b, hm2, _⟩ := id hM2
  show xl g k rc rs 1392 [(5, vI kk), (1, vR 0), (2, vR 38), (3, vR 78), (4, vI (i : Int))] [vI v2] n1 f2
  refine xl_istore dL_law_1392 (by decide) (by decide) ?_
  refine xl_aload_n dL_law_1394 rfl ?_
  refine xl_callV (rc := rc) (rs := rs) (mc2 := 0) (ms2 := 0) (a := 38) (As := []) (st := []) dL_law_1395 mv_L_91 h38b rfl (by decide) (by decide) (Nat.le_of_ble_eq_true rfl) rfl (ct_thrown h38b ?_)
  show xl g k rc rs 1398 [(6, vI v2), (5, vI kk), (1, vR 0), (2, vR 38), (3, vR 78), (4, vI (i : Int))] [vI (m2 0)] n1 f2
  refine xl_topi kk hm2.1 ?_
  refine xl_iload dL_law_1398 rfl ?_
  refine xl_icmpsame (tgt := 1405) dL_law_1400 (by decide) ?_
  refine xl_iload dL_law_1405 rfl ?_
  refine xl_ifne (tgt := 1422) dL_law_1407 (by decide) (by unfold inI; omega) (fun _ => xl_goto (tgt := 1775) dL_law_1422 (by decide) (xl_ls [(1, vR 0), (2, vR 38), (3, vR 78), (4, vI (i : Int))] ⟨rfl, rfl, rfl, rfl, trivial⟩ (K n1 f2 S1 hLS hiv))) (fun e0 => ?_)
  obtain ⟨o, h78, ho0⟩ := ho e0
  have h78b : f2 78 = some (aL 1 o) := (hC2 78 (by omega)).trans h78
  have ev := hv e0
  subst ev
  refine xl_aload_n dL_law_1410 rfl ?_
  refine xl_iconst dL_law_1411 ?_
  refine xl_lald (N := 1) (j := 0) dL_law_1412 h78b rfl (by decide) (by decide) ?_
  refine xl_topl (nrm v2) ho0 ?_
  refine xl_iload dL_law_1413 rfl ?_
  refine xl_nrm ?_
  refine xl_i2l dL_law_1415 (nrm_in _) ?_
  refine xl_lcmp dL_law_1416 (inIL (nrm_in _)) (inIL (nrm_in _)) ?_
  refine xl_ifeq (tgt := 1422) dL_law_1417 (by decide) (xcmp_in _ _) (fun _ => xl_goto (tgt := 1775) dL_law_1422 (by decide) (xl_ls [(1, vR 0), (2, vR 38), (3, vR 78), (4, vI (i : Int))] ⟨rfl, rfl, rfl, rfl, trivial⟩ (K n1 f2 S1 hLS hiv))) (fun q => absurd ((xcmp_eq _ _).2 rfl) q)
theorem lc_free (hX : okX g) (h : LSf n f S) (hi : inv S) (hk : i + 8 ≤ k.2.1) (hL : k.2.1 ≤ 4096) (K : ∀ n1 f1 S1, LSf n1 f1 S1 → inv S1 → xl g k rc rs 1775 [(1, vR 0), (2, vR 38), (3, vR 78), (4, vI (i : Int))] [] n1 f1) : xl g k (rc + 401) (rs + 2806) 1425 [(1, vR 0), (2, vR 38), (3, vR 78), (4, vI (i : Int))] [] n f := by
  obtain ⟨bn, β, gn, σ, d, as, ps, pb, pu, pr⟩ := S
  have h : LSf n f (mkS bn β gn σ d as ps pb pu pr) := h
  have hi : chn gn σ as := hi
  refine xl_room (rc := rc + 401) (rs := rs + 2806) (rc' := rc + 1) (rs' := rs + 6) (by omega) (by omega) ?_
  refine xl_aload_n dL_law_1425 rfl ?_
  refine xl_scr (i := i) (j := 1) (z := i + 1) dL_law_1426 dL_law_1427 dL_law_1429 (Or.inl ⟨rfl, rfl⟩) dL_law_1430 dL_law_1431 rfl rfl (by omega) hL ?_
  refine xl_aload_n dL_law_1432 rfl ?_
  refine xl_callSW (rc := rc) (rs := rs) (mc2 := 1) (ms2 := 6) (As := [vR 0, vI (k.2.2 (i + 1)).toInt, vR 78]) (st := []) dL_law_1433 msw_L_158 (by decide) (by decide) (Nat.le_of_ble_eq_true rfl) rfl (wct_free hX h (in32 _) (fun n1 f1 kk v S1 hr hn ha ho hkk => ?_))
  show xl g k rc rs 1436 [(1, vR 0), (2, vR 38), (3, vR 78), (4, vI (i : Int))] [vI kk] n1 f1
  obtain ⟨_, ⟨th, hM⟩, _⟩ := id ha
  obtain ⟨m9, h38, _⟩ := id hM
  refine xl_istore dL_law_1436 (by decide) (by decide) ?_
  refine xl_aload_n dL_law_1438 rfl ?_
  refine xl_scr (i := i) (j := 1) (z := i + 1) dL_law_1439 dL_law_1440 dL_law_1442 (Or.inl ⟨rfl, rfl⟩) dL_law_1443 dL_law_1444 rfl rfl (by omega) hL ?_
  refine xl_callV (rc := rc) (rs := rs) (mc2 := 0) (ms2 := 0) (a := 38) (As := [vI (k.2.2 (i + 1)).toInt]) (st := []) dL_law_1445 mv_L_160 h38 rfl (by decide) (by decide) (Nat.le_of_ble_eq_true rfl) rfl (mwt_free hM hi (in32 _) hr (fun f2 v2 hM2 hC2 hv => ?_))
  have hLS := LS_M ha hM2 hC2
  have hiv := iv_free hM hi hr
  obtain ⟨m2, h38b, hm2, _⟩ := id hM2
  show xl g k rc rs 1448 [(5, vI kk), (1, vR 0), (2, vR 38), (3, vR 78), (4, vI (i : Int))] [vI v2] n1 f2
  refine xl_istore dL_law_1448 (by decide) (by decide) ?_
  refine xl_aload_n dL_law_1450 rfl ?_
  refine xl_callV (rc := rc) (rs := rs) (mc2 := 0) (ms2 := 0) (a := 38) (As := []) (st := []) dL_law_1451 mv_L_91 h38b rfl (by decide) (by decide) (Nat.le_of_ble_eq_true rfl) rfl (ct_thrown h38b ?_)
  show xl g k rc rs 1454 [(6, vI v2), (5, vI kk), (1, vR 0), (2, vR 38), (3, vR 78), (4, vI (i : Int))] [vI (m2 0)] n1 f2
  refine xl_topi kk hm2.1 ?_
  refine xl_iload dL_law_1454 rfl ?_
  refine xl_icmpsame (tgt := 1461) dL_law_1456 (by decide) ?_
  refine xl_iload dL_law_1461 rfl ?_
  refine xl_ifne (tgt := 1485) dL_law_1463 (by decide) (by unfold inI; omega) (fun _ => xl_goto (tgt := 1775) dL_law_1485 (by decide) (xl_ls [(1, vR 0), (2, vR 38), (3, vR 78), (4, vI (i : Int))] ⟨rfl, rfl, rfl, rfl, trivial⟩ (K n1 f2 S1 hLS hiv))) (fun e0 => ?_)
  obtain ⟨o, h78, ho0⟩ := ho e0
  have h78b : f2 78 = some (aL 1 o) := (hC2 78 (by omega)).trans h78
  have ev := hv e0
  subst ev
  refine xl_aload_n dL_law_1466 rfl ?_
  refine xl_iconst dL_law_1467 ?_
  refine xl_lald (N := 1) (j := 0) dL_law_1468 h78b rfl (by decide) (by decide) ?_
  refine xl_topl (nrm v2) ho0 ?_
  refine xl_iload dL_law_1469 rfl ?_
  rcases zb_free hr e0 with rfl | rfl
  · refine xl_ifeq (tgt := 1478) dL_law_1471 (by decide) (by unfold inI; omega) (fun _ => ?_) (fun q => absurd rfl q)
    refine xl_lconst (z := 0) dL_law_1478 (by decide) ?_
    refine xl_lcmp dL_law_1479 (inIL (nrm_in _)) (by unfold inL; omega) ?_
    refine xl_ifeq (tgt := 1485) dL_law_1480 (by decide) (xcmp_in _ _) (fun _ => xl_goto (tgt := 1775) dL_law_1485 (by decide) (xl_ls [(1, vR 0), (2, vR 38), (3, vR 78), (4, vI (i : Int))] ⟨rfl, rfl, rfl, rfl, trivial⟩ (K n1 f2 S1 hLS hiv))) (fun q => absurd ((xcmp_eq _ _).2 (by decide)) q)
  · refine xl_ifeq (tgt := 1478) dL_law_1471 (by decide) (by unfold inI; omega) (fun q => absurd q (by decide)) (fun _ => ?_)
    refine xl_lconst (z := 1) dL_law_1474 (by decide) ?_
    refine xl_goto (tgt := 1479) dL_law_1475 (by decide) ?_
    refine xl_lcmp dL_law_1479 (inIL (nrm_in _)) (by unfold inL; omega) ?_
    refine xl_ifeq (tgt := 1485) dL_law_1480 (by decide) (xcmp_in _ _) (fun _ => xl_goto (tgt := 1775) dL_law_1485 (by decide) (xl_ls [(1, vR 0), (2, vR 38), (3, vR 78), (4, vI (i : Int))] ⟨rfl, rfl, rfl, rfl, trivial⟩ (K n1 f2 S1 hLS hiv))) (fun q => absurd ((xcmp_eq _ _).2 (by decide)) q)
theorem lc_order (hX : okX g) (h : LSf n f S) (hi : inv S) (hk : i + 8 ≤ k.2.1) (hL : k.2.1 ≤ 4096) (K : ∀ n1 f1 S1, LSf n1 f1 S1 → inv S1 → xl g k rc rs 1775 [(1, vR 0), (2, vR 38), (3, vR 78), (4, vI (i : Int))] [] n1 f1) : xl g k (rc + 401) (rs + 2806) 1488 [(1, vR 0), (2, vR 38), (3, vR 78), (4, vI (i : Int))] [] n f := by
  obtain ⟨bn, β, gn, σ, d, as, ps, pb, pu, pr⟩ := S
  have h : LSf n f (mkS bn β gn σ d as ps pb pu pr) := h
  have hi : chn gn σ as := hi
  refine xl_room (rc := rc + 401) (rs := rs + 2806) (rc' := rc) (rs' := rs) (by omega) (by omega) ?_
  obtain ⟨bo9, so9, tk9, rk9, h0, _⟩ := id h.1
  refine xl_aload_n dL_law_1488 rfl ?_
  refine xl_scr (i := i) (j := 1) (z := i + 1) dL_law_1489 dL_law_1490 dL_law_1492 (Or.inl ⟨rfl, rfl⟩) dL_law_1493 dL_law_1494 rfl rfl (by omega) hL ?_
  refine xl_callV (rc := rc) (rs := rs) (mc2 := 0) (ms2 := 0) (a := 0) (As := [vI (k.2.2 (i + 1)).toInt]) (st := []) dL_law_1495 mv_L_161 h0 rfl (by decide) (by decide) (Nat.le_of_ble_eq_true rfl) rfl (dct_order h hi (in32 _) (fun f1 v S1 hr ha => ?_))
  show xl g k rc rs 1498 [(1, vR 0), (2, vR 38), (3, vR 78), (4, vI (i : Int))] [vI v] n f1
  obtain ⟨_, ⟨th, hM⟩, _⟩ := id ha
  obtain ⟨m9, h38, _⟩ := id hM
  refine xl_aload_n dL_law_1498 rfl ?_
  refine xl_scr (i := i) (j := 1) (z := i + 1) dL_law_1499 dL_law_1500 dL_law_1502 (Or.inl ⟨rfl, rfl⟩) dL_law_1503 dL_law_1504 rfl rfl (by omega) hL ?_
  refine xl_callV (rc := rc) (rs := rs) (mc2 := 0) (ms2 := 0) (a := 38) (As := [vI (k.2.2 (i + 1)).toInt]) (st := [vI v]) dL_law_1505 mv_L_164 h38 rfl (by decide) (by decide) (Nat.le_of_ble_eq_true rfl) rfl (mdt_order hM hi (in32 _) hr (fun f2 th2 hM2 hC2 => ?_))
  show xl g k rc rs 1508 [(1, vR 0), (2, vR 38), (3, vR 78), (4, vI (i : Int))] [vI v, vI v] n f2
  exact xl_icmpsame (tgt := 1775) dL_law_1508 (by decide) (K n f2 S1 (LS_M ha hM2 hC2) (jv_order hi hr))
theorem lc_knots (hX : okX g) (h : LSf n f S) (hi : inv S) (hk : i + 8 ≤ k.2.1) (hL : k.2.1 ≤ 4096) (K : ∀ n1 f1 S1, LSf n1 f1 S1 → inv S1 → xl g k rc rs 1775 [(1, vR 0), (2, vR 38), (3, vR 78), (4, vI (i : Int))] [] n1 f1) : xl g k (rc + 401) (rs + 2806) 1513 [(1, vR 0), (2, vR 38), (3, vR 78), (4, vI (i : Int))] [] n f := by
  obtain ⟨bn, β, gn, σ, d, as, ps, pb, pu, pr⟩ := S
  have h : LSf n f (mkS bn β gn σ d as ps pb pu pr) := h
  have hi : chn gn σ as := hi
  refine xl_room (rc := rc + 401) (rs := rs + 2806) (rc' := rc) (rs' := rs) (by omega) (by omega) ?_
  obtain ⟨bo9, so9, tk9, rk9, h0, _⟩ := id h.1
  refine xl_aload_n dL_law_1513 rfl ?_
  refine xl_callV (rc := rc) (rs := rs) (mc2 := 0) (ms2 := 0) (a := 0) (As := []) (st := []) dL_law_1514 mv_L_165 h0 rfl (by decide) (by decide) (Nat.le_of_ble_eq_true rfl) rfl (dct_knots h hi (fun f1 v S1 hr ha => ?_))
  show xl g k rc rs 1517 [(1, vR 0), (2, vR 38), (3, vR 78), (4, vI (i : Int))] [vI v] n f1
  obtain ⟨_, ⟨th, hM⟩, _⟩ := id ha
  obtain ⟨m9, h38, _⟩ := id hM
  refine xl_aload_n dL_law_1517 rfl ?_
  refine xl_callV (rc := rc) (rs := rs) (mc2 := 0) (ms2 := 0) (a := 38) (As := []) (st := [vI v]) dL_law_1518 mv_L_168 h38 rfl (by decide) (by decide) (Nat.le_of_ble_eq_true rfl) rfl (mdt_knots hM hi hr (fun f2 th2 hM2 hC2 => ?_))
  show xl g k rc rs 1521 [(1, vR 0), (2, vR 38), (3, vR 78), (4, vI (i : Int))] [vI v, vI v] n f2
  exact xl_icmpsame (tgt := 1775) dL_law_1521 (by decide) (K n f2 S1 (LS_M ha hM2 hC2) (jv_knots hi hr))
theorem lc_knot (hX : okX g) (h : LSf n f S) (hi : inv S) (hk : i + 8 ≤ k.2.1) (hL : k.2.1 ≤ 4096) (K : ∀ n1 f1 S1, LSf n1 f1 S1 → inv S1 → xl g k rc rs 1775 [(1, vR 0), (2, vR 38), (3, vR 78), (4, vI (i : Int))] [] n1 f1) : xl g k (rc + 401) (rs + 2806) 1526 [(1, vR 0), (2, vR 38), (3, vR 78), (4, vI (i : Int))] [] n f := by
  obtain ⟨bn, β, gn, σ, d, as, ps, pb, pu, pr⟩ := S
  have h : LSf n f (mkS bn β gn σ d as ps pb pu pr) := h
  have hi : chn gn σ as := hi
  refine xl_room (rc := rc + 401) (rs := rs + 2806) (rc' := rc) (rs' := rs) (by omega) (by omega) ?_
  obtain ⟨bo9, so9, tk9, rk9, h0, _⟩ := id h.1
  refine xl_aload_n dL_law_1526 rfl ?_
  refine xl_scr (i := i) (j := 1) (z := i + 1) dL_law_1527 dL_law_1528 dL_law_1530 (Or.inl ⟨rfl, rfl⟩) dL_law_1531 dL_law_1532 rfl rfl (by omega) hL ?_
  refine xl_scr (i := i) (j := 2) (z := i + 2) dL_law_1533 dL_law_1534 dL_law_1536 (Or.inl ⟨rfl, rfl⟩) dL_law_1537 dL_law_1538 rfl rfl (by omega) hL ?_
  refine xl_scr (i := i) (j := 3) (z := i + 3) dL_law_1539 dL_law_1540 dL_law_1542 (Or.inl ⟨rfl, rfl⟩) dL_law_1543 dL_law_1544 rfl rfl (by omega) hL ?_
  refine xl_callV (rc := rc) (rs := rs) (mc2 := 0) (ms2 := 0) (a := 0) (As := [vI (k.2.2 (i + 1)).toInt, vI (k.2.2 (i + 2)).toInt, vI (k.2.2 (i + 3)).toInt]) (st := []) dL_law_1545 mv_L_169 h0 rfl (by decide) (by decide) (Nat.le_of_ble_eq_true rfl) rfl (dct_knot h hi (in32 _) (in32 _) (in32 _) (fun f1 v S1 hr ha => ?_))
  show xl g k rc rs 1548 [(1, vR 0), (2, vR 38), (3, vR 78), (4, vI (i : Int))] [vI v] n f1
  obtain ⟨_, ⟨th, hM⟩, _⟩ := id ha
  obtain ⟨m9, h38, _⟩ := id hM
  refine xl_aload_n dL_law_1548 rfl ?_
  refine xl_scr (i := i) (j := 1) (z := i + 1) dL_law_1549 dL_law_1550 dL_law_1552 (Or.inl ⟨rfl, rfl⟩) dL_law_1553 dL_law_1554 rfl rfl (by omega) hL ?_
  refine xl_scr (i := i) (j := 2) (z := i + 2) dL_law_1555 dL_law_1556 dL_law_1558 (Or.inl ⟨rfl, rfl⟩) dL_law_1559 dL_law_1560 rfl rfl (by omega) hL ?_
  refine xl_scr (i := i) (j := 3) (z := i + 3) dL_law_1561 dL_law_1562 dL_law_1564 (Or.inl ⟨rfl, rfl⟩) dL_law_1565 dL_law_1566 rfl rfl (by omega) hL ?_
  refine xl_callV (rc := rc) (rs := rs) (mc2 := 0) (ms2 := 0) (a := 38) (As := [vI (k.2.2 (i + 1)).toInt, vI (k.2.2 (i + 2)).toInt, vI (k.2.2 (i + 3)).toInt]) (st := [vI v]) dL_law_1567 mv_L_172 h38 rfl (by decide) (by decide) (Nat.le_of_ble_eq_true rfl) rfl (mdt_knot hM hi (in32 _) (in32 _) (in32 _) hr (fun f2 th2 hM2 hC2 => ?_))
  show xl g k rc rs 1570 [(1, vR 0), (2, vR 38), (3, vR 78), (4, vI (i : Int))] [vI v, vI v] n f2
  exact xl_icmpsame (tgt := 1775) dL_law_1570 (by decide) (K n f2 S1 (LS_M ha hM2 hC2) (jv_knot hi hr))
theorem lc_fewest (hX : okX g) (h : LSf n f S) (hi : inv S) (hk : i + 8 ≤ k.2.1) (hL : k.2.1 ≤ 4096) (K : ∀ n1 f1 S1, LSf n1 f1 S1 → inv S1 → xl g k rc rs 1775 [(1, vR 0), (2, vR 38), (3, vR 78), (4, vI (i : Int))] [] n1 f1) : xl g k (rc + 401) (rs + 2806) 1575 [(1, vR 0), (2, vR 38), (3, vR 78), (4, vI (i : Int))] [] n f := by
  obtain ⟨bn, β, gn, σ, d, as, ps, pb, pu, pr⟩ := S
  have h : LSf n f (mkS bn β gn σ d as ps pb pu pr) := h
  have hi : chn gn σ as := hi
  refine xl_room (rc := rc + 401) (rs := rs + 2806) (rc' := rc) (rs' := rs) (by omega) (by omega) ?_
  obtain ⟨bo9, so9, tk9, rk9, h0, _⟩ := id h.1
  refine xl_aload_n dL_law_1575 rfl ?_
  refine xl_callV (rc := rc) (rs := rs) (mc2 := 0) (ms2 := 0) (a := 0) (As := []) (st := []) dL_law_1576 mv_L_173 h0 rfl (by decide) (by decide) (Nat.le_of_ble_eq_true rfl) rfl (dct_fewest h hi (fun f1 v S1 hr ha => ?_))
  show xl g k rc rs 1579 [(1, vR 0), (2, vR 38), (3, vR 78), (4, vI (i : Int))] [vI v] n f1
  obtain ⟨_, ⟨th, hM⟩, _⟩ := id ha
  obtain ⟨m9, h38, _⟩ := id hM
  refine xl_aload_n dL_law_1579 rfl ?_
  refine xl_callV (rc := rc) (rs := rs) (mc2 := 0) (ms2 := 0) (a := 38) (As := []) (st := [vI v]) dL_law_1580 mv_L_176 h38 rfl (by decide) (by decide) (Nat.le_of_ble_eq_true rfl) rfl (mdt_fewest hM hi hr (fun f2 th2 hM2 hC2 => ?_))
  show xl g k rc rs 1583 [(1, vR 0), (2, vR 38), (3, vR 78), (4, vI (i : Int))] [vI v, vI v] n f2
  exact xl_icmpsame (tgt := 1775) dL_law_1583 (by decide) (K n f2 S1 (LS_M ha hM2 hC2) (jv_fewest hi hr))
theorem lc_few (hX : okX g) (h : LSf n f S) (hi : inv S) (hk : i + 8 ≤ k.2.1) (hL : k.2.1 ≤ 4096) (K : ∀ n1 f1 S1, LSf n1 f1 S1 → inv S1 → xl g k rc rs 1775 [(1, vR 0), (2, vR 38), (3, vR 78), (4, vI (i : Int))] [] n1 f1) : xl g k (rc + 401) (rs + 2806) 1588 [(1, vR 0), (2, vR 38), (3, vR 78), (4, vI (i : Int))] [] n f := by
  obtain ⟨bn, β, gn, σ, d, as, ps, pb, pu, pr⟩ := S
  have h : LSf n f (mkS bn β gn σ d as ps pb pu pr) := h
  have hi : chn gn σ as := hi
  refine xl_room (rc := rc + 401) (rs := rs + 2806) (rc' := rc) (rs' := rs) (by omega) (by omega) ?_
  obtain ⟨bo9, so9, tk9, rk9, h0, _⟩ := id h.1
  refine xl_aload_n dL_law_1588 rfl ?_
  refine xl_scr (i := i) (j := 1) (z := i + 1) dL_law_1589 dL_law_1590 dL_law_1592 (Or.inl ⟨rfl, rfl⟩) dL_law_1593 dL_law_1594 rfl rfl (by omega) hL ?_
  refine xl_callV (rc := rc) (rs := rs) (mc2 := 0) (ms2 := 0) (a := 0) (As := [vI (k.2.2 (i + 1)).toInt]) (st := []) dL_law_1595 mv_L_177 h0 rfl (by decide) (by decide) (Nat.le_of_ble_eq_true rfl) rfl (dct_few h hi (in32 _) (fun f1 v S1 hr ha => ?_))
  show xl g k rc rs 1598 [(1, vR 0), (2, vR 38), (3, vR 78), (4, vI (i : Int))] [vI v] n f1
  obtain ⟨_, ⟨th, hM⟩, _⟩ := id ha
  obtain ⟨m9, h38, _⟩ := id hM
  refine xl_aload_n dL_law_1598 rfl ?_
  refine xl_scr (i := i) (j := 1) (z := i + 1) dL_law_1599 dL_law_1600 dL_law_1602 (Or.inl ⟨rfl, rfl⟩) dL_law_1603 dL_law_1604 rfl rfl (by omega) hL ?_
  refine xl_callV (rc := rc) (rs := rs) (mc2 := 0) (ms2 := 0) (a := 38) (As := [vI (k.2.2 (i + 1)).toInt]) (st := [vI v]) dL_law_1605 mv_L_180 h38 rfl (by decide) (by decide) (Nat.le_of_ble_eq_true rfl) rfl (mdt_few hM hi (in32 _) hr (fun f2 th2 hM2 hC2 => ?_))
  show xl g k rc rs 1608 [(1, vR 0), (2, vR 38), (3, vR 78), (4, vI (i : Int))] [vI v, vI v] n f2
  exact xl_icmpsame (tgt := 1775) dL_law_1608 (by decide) (K n f2 S1 (LS_M ha hM2 hC2) (jv_few hi hr))
theorem lc_layer (hX : okX g) (h : LSf n f S) (hi : inv S) (hk : i + 8 ≤ k.2.1) (hL : k.2.1 ≤ 4096) (K : ∀ n1 f1 S1, LSf n1 f1 S1 → inv S1 → xl g k rc rs 1775 [(1, vR 0), (2, vR 38), (3, vR 78), (4, vI (i : Int))] [] n1 f1) : xl g k (rc + 401) (rs + 2806) 1613 [(1, vR 0), (2, vR 38), (3, vR 78), (4, vI (i : Int))] [] n f := by
  obtain ⟨bn, β, gn, σ, d, as, ps, pb, pu, pr⟩ := S
  have h : LSf n f (mkS bn β gn σ d as ps pb pu pr) := h
  have hi : chn gn σ as := hi
  refine xl_room (rc := rc + 401) (rs := rs + 2806) (rc' := rc + 1) (rs' := rs + 6) (by omega) (by omega) ?_
  refine xl_aload_n dL_law_1613 rfl ?_
  refine xl_scr (i := i) (j := 1) (z := i + 1) dL_law_1614 dL_law_1615 dL_law_1617 (Or.inl ⟨rfl, rfl⟩) dL_law_1618 dL_law_1619 rfl rfl (by omega) hL ?_
  refine xl_aload_n dL_law_1620 rfl ?_
  refine xl_callSW (rc := rc) (rs := rs) (mc2 := 1) (ms2 := 6) (As := [vR 0, vI (k.2.2 (i + 1)).toInt, vR 78]) (st := []) dL_law_1621 msw_L_181 (by decide) (by decide) (Nat.le_of_ble_eq_true rfl) rfl (wct_layer hX h (in32 _) (fun n1 f1 kk v S1 hr hn ha ho hkk => ?_))
  show xl g k rc rs 1624 [(1, vR 0), (2, vR 38), (3, vR 78), (4, vI (i : Int))] [vI kk] n1 f1
  obtain ⟨_, ⟨th, hM⟩, _⟩ := id ha
  obtain ⟨m9, h38, _⟩ := id hM
  refine xl_istore dL_law_1624 (by decide) (by decide) ?_
  refine xl_aload_n dL_law_1626 rfl ?_
  refine xl_scr (i := i) (j := 1) (z := i + 1) dL_law_1627 dL_law_1628 dL_law_1630 (Or.inl ⟨rfl, rfl⟩) dL_law_1631 dL_law_1632 rfl rfl (by omega) hL ?_
  refine xl_callV (rc := rc) (rs := rs) (mc2 := 0) (ms2 := 0) (a := 38) (As := [vI (k.2.2 (i + 1)).toInt]) (st := []) dL_law_1633 mv_L_183 h38 rfl (by decide) (by decide) (Nat.le_of_ble_eq_true rfl) rfl (mwt_layer hM hi (in32 _) hr (fun f2 v2 hM2 hC2 hv => ?_))
  have hLS := LS_M ha hM2 hC2
  have hiv := iv_layer hM hi hr
  obtain ⟨m2, h38b, hm2, _⟩ := id hM2
  show xl g k rc rs 1636 [(5, vI kk), (1, vR 0), (2, vR 38), (3, vR 78), (4, vI (i : Int))] [vI v2] n1 f2
  refine xl_istore dL_law_1636 (by decide) (by decide) ?_
  refine xl_aload_n dL_law_1638 rfl ?_
  refine xl_callV (rc := rc) (rs := rs) (mc2 := 0) (ms2 := 0) (a := 38) (As := []) (st := []) dL_law_1639 mv_L_91 h38b rfl (by decide) (by decide) (Nat.le_of_ble_eq_true rfl) rfl (ct_thrown h38b ?_)
  show xl g k rc rs 1642 [(6, vI v2), (5, vI kk), (1, vR 0), (2, vR 38), (3, vR 78), (4, vI (i : Int))] [vI (m2 0)] n1 f2
  refine xl_topi kk hm2.1 ?_
  refine xl_iload dL_law_1642 rfl ?_
  refine xl_icmpsame (tgt := 1649) dL_law_1644 (by decide) ?_
  refine xl_iload dL_law_1649 rfl ?_
  refine xl_ifne (tgt := 1666) dL_law_1651 (by decide) (by unfold inI; omega) (fun _ => xl_goto (tgt := 1775) dL_law_1666 (by decide) (xl_ls [(1, vR 0), (2, vR 38), (3, vR 78), (4, vI (i : Int))] ⟨rfl, rfl, rfl, rfl, trivial⟩ (K n1 f2 S1 hLS hiv))) (fun e0 => ?_)
  obtain ⟨o, h78, ho0⟩ := ho e0
  have h78b : f2 78 = some (aL 1 o) := (hC2 78 (by omega)).trans h78
  have ev := hv e0
  subst ev
  refine xl_aload_n dL_law_1654 rfl ?_
  refine xl_iconst dL_law_1655 ?_
  refine xl_lald (N := 1) (j := 0) dL_law_1656 h78b rfl (by decide) (by decide) ?_
  refine xl_topl (nrm v2) ho0 ?_
  refine xl_iload dL_law_1657 rfl ?_
  refine xl_nrm ?_
  refine xl_i2l dL_law_1659 (nrm_in _) ?_
  refine xl_lcmp dL_law_1660 (inIL (nrm_in _)) (inIL (nrm_in _)) ?_
  refine xl_ifeq (tgt := 1666) dL_law_1661 (by decide) (xcmp_in _ _) (fun _ => xl_goto (tgt := 1775) dL_law_1666 (by decide) (xl_ls [(1, vR 0), (2, vR 38), (3, vR 78), (4, vI (i : Int))] ⟨rfl, rfl, rfl, rfl, trivial⟩ (K n1 f2 S1 hLS hiv))) (fun q => absurd ((xcmp_eq _ _).2 rfl) q)
theorem lc_push (hX : okX g) (h : LSf n f S) (hi : inv S) (hk : i + 8 ≤ k.2.1) (hL : k.2.1 ≤ 4096) (K : ∀ n1 f1 S1, LSf n1 f1 S1 → inv S1 → xl g k rc rs 1775 [(1, vR 0), (2, vR 38), (3, vR 78), (4, vI (i : Int))] [] n1 f1) : xl g k (rc + 401) (rs + 2806) 1669 [(1, vR 0), (2, vR 38), (3, vR 78), (4, vI (i : Int))] [] n f := by
  obtain ⟨bn, β, gn, σ, d, as, ps, pb, pu, pr⟩ := S
  have h : LSf n f (mkS bn β gn σ d as ps pb pu pr) := h
  have hi : chn gn σ as := hi
  refine xl_room (rc := rc + 401) (rs := rs + 2806) (rc' := rc) (rs' := rs) (by omega) (by omega) ?_
  obtain ⟨bo9, so9, tk9, rk9, h0, _⟩ := id h.1
  refine xl_aload_n dL_law_1669 rfl ?_
  refine xl_scr (i := i) (j := 1) (z := i + 1) dL_law_1670 dL_law_1671 dL_law_1673 (Or.inl ⟨rfl, rfl⟩) dL_law_1674 dL_law_1675 rfl rfl (by omega) hL ?_
  refine xl_callV (rc := rc) (rs := rs) (mc2 := 0) (ms2 := 0) (a := 0) (As := [vI (k.2.2 (i + 1)).toInt]) (st := []) dL_law_1676 mv_L_184 h0 rfl (by decide) (by decide) (Nat.le_of_ble_eq_true rfl) rfl (dct_push h hi (in32 _) (fun f1 v S1 hr ha => ?_))
  show xl g k rc rs 1679 [(1, vR 0), (2, vR 38), (3, vR 78), (4, vI (i : Int))] [vI v] n f1
  obtain ⟨_, ⟨th, hM⟩, _⟩ := id ha
  obtain ⟨m9, h38, _⟩ := id hM
  refine xl_aload_n dL_law_1679 rfl ?_
  refine xl_scr (i := i) (j := 1) (z := i + 1) dL_law_1680 dL_law_1681 dL_law_1683 (Or.inl ⟨rfl, rfl⟩) dL_law_1684 dL_law_1685 rfl rfl (by omega) hL ?_
  refine xl_callV (rc := rc) (rs := rs) (mc2 := 0) (ms2 := 0) (a := 38) (As := [vI (k.2.2 (i + 1)).toInt]) (st := [vI v]) dL_law_1686 mv_L_187 h38 rfl (by decide) (by decide) (Nat.le_of_ble_eq_true rfl) rfl (mdt_push hM hi (in32 _) hr (fun f2 th2 hM2 hC2 => ?_))
  show xl g k rc rs 1689 [(1, vR 0), (2, vR 38), (3, vR 78), (4, vI (i : Int))] [vI v, vI v] n f2
  exact xl_icmpsame (tgt := 1775) dL_law_1689 (by decide) (K n f2 S1 (LS_M ha hM2 hC2) (jv_push hi hr))
theorem lc_check (hX : okX g) (h : LSf n f S) (hi : inv S) (hk : i + 8 ≤ k.2.1) (hL : k.2.1 ≤ 4096) (K : ∀ n1 f1 S1, LSf n1 f1 S1 → inv S1 → xl g k rc rs 1775 [(1, vR 0), (2, vR 38), (3, vR 78), (4, vI (i : Int))] [] n1 f1) : xl g k (rc + 401) (rs + 2806) 1694 [(1, vR 0), (2, vR 38), (3, vR 78), (4, vI (i : Int))] [] n f := by
  obtain ⟨bn, β, gn, σ, d, as, ps, pb, pu, pr⟩ := S
  have h : LSf n f (mkS bn β gn σ d as ps pb pu pr) := h
  have hi : chn gn σ as := hi
  refine xl_room (rc := rc + 401) (rs := rs + 2806) (rc' := rc + 1) (rs' := rs + 6) (by omega) (by omega) ?_
  refine xl_aload_n dL_law_1694 rfl ?_
  refine xl_scr (i := i) (j := 1) (z := i + 1) dL_law_1695 dL_law_1696 dL_law_1698 (Or.inl ⟨rfl, rfl⟩) dL_law_1699 dL_law_1700 rfl rfl (by omega) hL ?_
  refine xl_aload_n dL_law_1701 rfl ?_
  refine xl_callSW (rc := rc) (rs := rs) (mc2 := 1) (ms2 := 6) (As := [vR 0, vI (k.2.2 (i + 1)).toInt, vR 78]) (st := []) dL_law_1702 msw_L_188 (by decide) (by decide) (Nat.le_of_ble_eq_true rfl) rfl (wct_check hX h (in32 _) (fun n1 f1 kk v S1 hr hn ha ho hkk => ?_))
  show xl g k rc rs 1705 [(1, vR 0), (2, vR 38), (3, vR 78), (4, vI (i : Int))] [vI kk] n1 f1
  obtain ⟨_, ⟨th, hM⟩, _⟩ := id ha
  obtain ⟨m9, h38, _⟩ := id hM
  refine xl_istore dL_law_1705 (by decide) (by decide) ?_
  refine xl_aload_n dL_law_1707 rfl ?_
  refine xl_scr (i := i) (j := 1) (z := i + 1) dL_law_1708 dL_law_1709 dL_law_1711 (Or.inl ⟨rfl, rfl⟩) dL_law_1712 dL_law_1713 rfl rfl (by omega) hL ?_
  refine xl_callV (rc := rc) (rs := rs) (mc2 := 0) (ms2 := 0) (a := 38) (As := [vI (k.2.2 (i + 1)).toInt]) (st := []) dL_law_1714 mv_L_190 h38 rfl (by decide) (by decide) (Nat.le_of_ble_eq_true rfl) rfl (mwt_check hM hi (in32 _) hr (fun f2 v2 hM2 hC2 hv => ?_))
  have hLS := LS_M ha hM2 hC2
  have hiv := iv_check hM hi hr
  obtain ⟨m2, h38b, hm2, _⟩ := id hM2
  show xl g k rc rs 1717 [(5, vI kk), (1, vR 0), (2, vR 38), (3, vR 78), (4, vI (i : Int))] [vI v2] n1 f2
  refine xl_istore dL_law_1717 (by decide) (by decide) ?_
  refine xl_aload_n dL_law_1719 rfl ?_
  refine xl_callV (rc := rc) (rs := rs) (mc2 := 0) (ms2 := 0) (a := 38) (As := []) (st := []) dL_law_1720 mv_L_91 h38b rfl (by decide) (by decide) (Nat.le_of_ble_eq_true rfl) rfl (ct_thrown h38b ?_)
  show xl g k rc rs 1723 [(6, vI v2), (5, vI kk), (1, vR 0), (2, vR 38), (3, vR 78), (4, vI (i : Int))] [vI (m2 0)] n1 f2
  refine xl_topi kk hm2.1 ?_
  refine xl_iload dL_law_1723 rfl ?_
  refine xl_icmpsame (tgt := 1730) dL_law_1725 (by decide) ?_
  refine xl_iload dL_law_1730 rfl ?_
  refine xl_ifne (tgt := 1747) dL_law_1732 (by decide) (by unfold inI; omega) (fun _ => xl_goto (tgt := 1775) dL_law_1747 (by decide) (xl_ls [(1, vR 0), (2, vR 38), (3, vR 78), (4, vI (i : Int))] ⟨rfl, rfl, rfl, rfl, trivial⟩ (K n1 f2 S1 hLS hiv))) (fun e0 => ?_)
  obtain ⟨o, h78, ho0⟩ := ho e0
  have h78b : f2 78 = some (aL 1 o) := (hC2 78 (by omega)).trans h78
  have ev := hv e0
  subst ev
  refine xl_aload_n dL_law_1735 rfl ?_
  refine xl_iconst dL_law_1736 ?_
  refine xl_lald (N := 1) (j := 0) dL_law_1737 h78b rfl (by decide) (by decide) ?_
  refine xl_topl (nrm v2) ho0 ?_
  refine xl_iload dL_law_1738 rfl ?_
  refine xl_nrm ?_
  refine xl_i2l dL_law_1740 (nrm_in _) ?_
  refine xl_lcmp dL_law_1741 (inIL (nrm_in _)) (inIL (nrm_in _)) ?_
  refine xl_ifeq (tgt := 1747) dL_law_1742 (by decide) (xcmp_in _ _) (fun _ => xl_goto (tgt := 1775) dL_law_1747 (by decide) (xl_ls [(1, vR 0), (2, vR 38), (3, vR 78), (4, vI (i : Int))] ⟨rfl, rfl, rfl, rfl, trivial⟩ (K n1 f2 S1 hLS hiv))) (fun q => absurd ((xcmp_eq _ _).2 rfl) q)
theorem lc_octet (hX : okX g) (h : LSf n f S) (hi : inv S) (hk : i + 8 ≤ k.2.1) (hL : k.2.1 ≤ 4096) (K : ∀ n1 f1 S1, LSf n1 f1 S1 → inv S1 → xl g k rc rs 1775 [(1, vR 0), (2, vR 38), (3, vR 78), (4, vI (i : Int))] [] n1 f1) : xl g k (rc + 401) (rs + 2806) 1750 [(1, vR 0), (2, vR 38), (3, vR 78), (4, vI (i : Int))] [] n f := by
  obtain ⟨bn, β, gn, σ, d, as, ps, pb, pu, pr⟩ := S
  have h : LSf n f (mkS bn β gn σ d as ps pb pu pr) := h
  have hi : chn gn σ as := hi
  refine xl_room (rc := rc + 401) (rs := rs + 2806) (rc' := rc) (rs' := rs) (by omega) (by omega) ?_
  obtain ⟨bo9, so9, tk9, rk9, h0, _⟩ := id h.1
  refine xl_aload_n dL_law_1750 rfl ?_
  refine xl_scr (i := i) (j := 1) (z := i + 1) dL_law_1751 dL_law_1752 dL_law_1754 (Or.inl ⟨rfl, rfl⟩) dL_law_1755 dL_law_1756 rfl rfl (by omega) hL ?_
  refine xl_callV (rc := rc) (rs := rs) (mc2 := 0) (ms2 := 0) (a := 0) (As := [vI (k.2.2 (i + 1)).toInt]) (st := []) dL_law_1757 mv_L_191 h0 rfl (by decide) (by decide) (Nat.le_of_ble_eq_true rfl) rfl (dct_octet h hi (in32 _) (fun f1 v S1 hr ha => ?_))
  show xl g k rc rs 1760 [(1, vR 0), (2, vR 38), (3, vR 78), (4, vI (i : Int))] [vI v] n f1
  obtain ⟨_, ⟨th, hM⟩, _⟩ := id ha
  obtain ⟨m9, h38, _⟩ := id hM
  refine xl_aload_n dL_law_1760 rfl ?_
  refine xl_scr (i := i) (j := 1) (z := i + 1) dL_law_1761 dL_law_1762 dL_law_1764 (Or.inl ⟨rfl, rfl⟩) dL_law_1765 dL_law_1766 rfl rfl (by omega) hL ?_
  refine xl_callV (rc := rc) (rs := rs) (mc2 := 0) (ms2 := 0) (a := 38) (As := [vI (k.2.2 (i + 1)).toInt]) (st := [vI v]) dL_law_1767 mv_L_194 h38 rfl (by decide) (by decide) (Nat.le_of_ble_eq_true rfl) rfl (mdt_octet hM hi (in32 _) hr (fun f2 th2 hM2 hC2 => ?_))
  show xl g k rc rs 1770 [(1, vR 0), (2, vR 38), (3, vR 78), (4, vI (i : Int))] [vI v, vI v] n f2
  exact xl_icmpsame (tgt := 1775) dL_law_1770 (by decide) (K n f2 S1 (LS_M ha hM2 hC2) (jv_octet hi hr))
theorem lc_loop (hX : okX g) (hL : k.2.1 ≤ 4096) : ∀ (t i n : Nat) (f : xH) (S : LSt), k.2.1 < i + 8 * t + 8 → i ≤ 8000 → LSf n f S → inv S → xl g k (401 * t) (2806 * t) 23 [(1, vR 0), (2, vR 38), (3, vR 78), (4, vI (i : Int))] [] n f := by
  intro t
  induction t with
  | zero =>
    intro i n f S ht h8 h hi
    refine xl_iload dL_law_23 rfl ?_
    refine xl_slen dL_law_25 dL_law_26 ?_
    refine xl_bipush (z := 8) dL_law_27 (by decide) ?_
    refine xl_isub dL_law_29 ?_
    refine xl_icmpgt (tgt := 1781) dL_law_30 (by decide) (by unfold inI; omega) (by unfold inI; omega) (fun _ => ?_) (fun q => by omega)
    refine xl_iconst dL_law_1781 ?_
    exact xl_end dL_law_1782
  | succ t ih =>
    intro i n f S ht h8 h hi
    refine xl_iload dL_law_23 rfl ?_
    refine xl_slen dL_law_25 dL_law_26 ?_
    refine xl_bipush (z := 8) dL_law_27 (by decide) ?_
    refine xl_isub dL_law_29 ?_
    refine xl_icmpgt (tgt := 1781) dL_law_30 (by decide) (by unfold inI; omega) (by unfold inI; omega) (fun _ => ?_) (fun q => ?_)
    · refine xl_iconst dL_law_1781 ?_
      exact xl_end dL_law_1782
    · have hk : i + 8 ≤ k.2.1 := by omega
      have K : ∀ n1 f1 S1, LSf n1 f1 S1 → inv S1 → xl g k (401 * t) (2806 * t) 1775 [(1, vR 0), (2, vR 38), (3, vR 78), (4, vI (i : Int))] [] n1 f1 := by
        intro n1 f1 S1 h1 hi1
        refine xl_iinc (z := (i : Int)) dL_law_1775 rfl (by decide) (by decide) ?_
        refine xl_goto (tgt := 23) dL_law_1778 (by decide) ?_
        exact xl_ls [(1, vR 0), (2, vR 38), (3, vR 78), (4, vI ((i + 8 : Nat) : Int))] ⟨rfl, rfl, rfl, by rfl, trivial⟩ (ih (i + 8) n1 f1 S1 (by omega) (by omega) h1 hi1)
      refine xl_scr0 (i := i) dL_law_33 dL_law_34 dL_law_36 rfl (by omega) hL ?_
      refine xl_bipush (z := 31) dL_law_37 (by decide) ?_
      refine xl_iand (z := (Int32.ofInt (k.2.2 i).toInt &&& Int32.ofInt 31).toInt) dL_law_39 (Int32.ofInt_toInt _).symm ?_
      have hz := in32 (Int32.ofInt (k.2.2 i).toInt &&& Int32.ofInt 31)
      generalize (Int32.ofInt (k.2.2 i).toInt &&& Int32.ofInt 31).toInt = z at hz ⊢
      by_cases o : z < 0 ∨ 27 < z
      · exact xl_tabOut (tgt := 1775) dL_law_40 hz o (by decide) (xl_room (rc' := 401 * t) (rs' := 2806 * t) (by omega) (by omega) (K n f S h hi))
      · have hc : z = 0 ∨ z = 1 ∨ z = 2 ∨ z = 3 ∨ z = 4 ∨ z = 5 ∨ z = 6 ∨ z = 7 ∨ z = 8 ∨ z = 9 ∨ z = 10 ∨ z = 11 ∨ z = 12 ∨ z = 13 ∨ z = 14 ∨ z = 15 ∨ z = 16 ∨ z = 17 ∨ z = 18 ∨ z = 19 ∨ z = 20 ∨ z = 21 ∨ z = 22 ∨ z = 23 ∨ z = 24 ∨ z = 25 ∨ z = 26 ∨ z = 27 := by omega
        refine xl_room (rc' := 401 * t + 401) (rs' := 2806 * t + 2806) (by omega) (by omega) ?_
        rcases hc with rfl | rfl | rfl | rfl | rfl | rfl | rfl | rfl | rfl | rfl | rfl | rfl | rfl | rfl | rfl | rfl | rfl | rfl | rfl | rfl | rfl | rfl | rfl | rfl | rfl | rfl | rfl | rfl
        · exact xl_tabIn (tgt := 168) dL_law_40 hz (by decide) (by decide) rfl (by decide) (lc_box hX h hi hk hL K)
        · exact xl_tabIn (tgt := 224) dL_law_40 hz (by decide) (by decide) rfl (by decide) (lc_row hX h hi hk hL K)
        · exact xl_tabIn (tgt := 304) dL_law_40 hz (by decide) (by decide) rfl (by decide) (lc_put hX h hi hk hL K)
        · exact xl_tabIn (tgt := 428) dL_law_40 hz (by decide) (by decide) rfl (by decide) (lc_copy hX h hi hk hL K)
        · exact xl_tabIn (tgt := 560) dL_law_40 hz (by decide) (by decide) rfl (by decide) (lc_tear hX h hi hk hL K)
        · exact xl_tabIn (tgt := 628) dL_law_40 hz (by decide) (by decide) rfl (by decide) (lc_lay hX h hi hk hL K)
        · exact xl_tabIn (tgt := 732) dL_law_40 hz (by decide) (by decide) rfl (by decide) (lc_move hX h hi hk hL K)
        · exact xl_tabIn (tgt := 824) dL_law_40 hz (by decide) (by decide) rfl (by decide) (lc_away hX h hi hk hL K)
        · exact xl_tabIn (tgt := 880) dL_law_40 hz (by decide) (by decide) rfl (by decide) (lc_lift hX h hi hk hL K)
        · exact xl_tabIn (tgt := 943) dL_law_40 hz (by decide) (by decide) rfl (by decide) (lc_turn hX h hi hk hL K)
        · exact xl_tabIn (tgt := 1003) dL_law_40 hz (by decide) (by decide) rfl (by decide) (lc_undo hX h hi hk hL K)
        · exact xl_tabIn (tgt := 1016) dL_law_40 hz (by decide) (by decide) rfl (by decide) (lc_told hX h hi hk hL K)
        · exact xl_tabIn (tgt := 1084) dL_law_40 hz (by decide) (by decide) rfl (by decide) (lc_count hX h hi hk hL K)
        · exact xl_tabIn (tgt := 1109) dL_law_40 hz (by decide) (by decide) rfl (by decide) (lc_after hX h hi hk hL K)
        · exact xl_tabIn (tgt := 1134) dL_law_40 hz (by decide) (by decide) rfl (by decide) (lc_bars hX h hi hk hL K)
        · exact xl_tabIn (tgt := 1209) dL_law_40 hz (by decide) (by decide) rfl (by decide) (lc_crossings hX h hi hk hL K)
        · exact xl_tabIn (tgt := 1265) dL_law_40 hz (by decide) (by decide) rfl (by decide) (lc_crossing hX h hi hk hL K)
        · exact xl_tabIn (tgt := 1345) dL_law_40 hz (by decide) (by decide) rfl (by decide) (lc_print hX h hi hk hL K)
        · exact xl_tabIn (tgt := 1425) dL_law_40 hz (by decide) (by decide) rfl (by decide) (lc_free hX h hi hk hL K)
        · exact xl_tabIn (tgt := 1488) dL_law_40 hz (by decide) (by decide) rfl (by decide) (lc_order hX h hi hk hL K)
        · exact xl_tabIn (tgt := 1513) dL_law_40 hz (by decide) (by decide) rfl (by decide) (lc_knots hX h hi hk hL K)
        · exact xl_tabIn (tgt := 1526) dL_law_40 hz (by decide) (by decide) rfl (by decide) (lc_knot hX h hi hk hL K)
        · exact xl_tabIn (tgt := 1575) dL_law_40 hz (by decide) (by decide) rfl (by decide) (lc_fewest hX h hi hk hL K)
        · exact xl_tabIn (tgt := 1588) dL_law_40 hz (by decide) (by decide) rfl (by decide) (lc_few hX h hi hk hL K)
        · exact xl_tabIn (tgt := 1613) dL_law_40 hz (by decide) (by decide) rfl (by decide) (lc_layer hX h hi hk hL K)
        · exact xl_tabIn (tgt := 1669) dL_law_40 hz (by decide) (by decide) rfl (by decide) (lc_push hX h hi hk hL K)
        · exact xl_tabIn (tgt := 1694) dL_law_40 hz (by decide) (by decide) rfl (by decide) (lc_check hX h hi hk hL K)
        · exact xl_tabIn (tgt := 1750) dL_law_40 hz (by decide) (by decide) rfl (by decide) (lc_octet hX h hi hk hL K)
end Cb9
