-- THE LAW: its cases
theorem yard_wf {S : SS} {L : LL} {σ : SIG} (h : CRel S L (nYard σ)) (h6 : gC σ < 6) : ∀ cls q, yrQ (gT σ) = (some cls, q) → ∀ c ∈ cls, c.1 < 2 → wfT c.2.2 0 := by
  intro cls q hy c hc h2
  have e : nYard σ = wYd σ (yQd cls) := by unfold nYard; rw [if_pos h6, hy]
  rw [e] at h
  obtain ⟨i, hi⟩ := List.mem_iff_getElem?.mp hc
  have hY := h.2.2.2.2.2.1 (gC σ + 1) (Nat.le_refl _)
  have hg : gY (wYd σ (yQd cls)) (gC σ + 1) = yQd cls := if_pos rfl
  rw [hg] at hY
  obtain ⟨-, -, -, -, -, g6⟩ := hY.2.2.1 i c hi
  obtain ⟨fr, -, -, -, -, hw⟩ := g6 h2
  exact hw

section LAW
variable {g : GG} {p : Program} {e : Env} {s : State} {m : MethodId} {below : List Frame} {meth : Method} {c : Code} {b L : Nat} {xs : Nat → Int32} {ρ1 ρ2 : Nat → Nat} {S1 S2 : SS} {L1 L2 : LL} {H : Heap} {locs : List Loc} {als : Array Slot} {cells slots : Nat}
set_option maxRecDepth 20000 in
set_option maxHeartbeats 1000000 in
theorem lw_k0 (C0 : lw_At p s m meth c b L xs) (hLs : L ≤ 3072) {n : Nat} {σ : SIG} (hn : n + 6 ≤ L) (X0 : LWd g s ρ1 ρ2 S1 L1 S2 L2 H locs) (hC : CRel S1 L1 σ) (hM : MRel S2 L2 σ) (hl : lv_has als 4 [(0, .ref b), (1, .ref (ρ1 0)), (2, .ref (ρ2 0)), (3, .int (nI n))]) (hcu : cells ≤ 600000 ∧ slots ≤ 7302250)
    (K : ∀ (σ' : SIG) (S1' : SS) (L1' : LL) (S2' : SS) (L2' : LL) (H' : Heap) (locs' : List Loc), LWd g s ρ1 ρ2 S1' L1' S2' L2' H' locs' → CRel S1' L1' σ' → MRel S2' L2' σ' → W p g.1 e room_1 s m #[Value.ref b] below meth c H' locs' cells slots (lw_Z below #[Value.ref b] s) (F0 m 1357 als [])) :
    W p g.1 e room_1 s m #[Value.ref b] below meth c H locs cells slots (lw_Z below #[Value.ref b] s) (F0 m 200 als []) := by
  obtain ⟨hx, hb, hr, hml, hown, hts, hX, hbl, hlocks, hgv⟩ := id C0
  refine lv_aload_n hx hb dL_law_200 rfl (lv_at hl 1 rfl) ?_
  refine lw_arg C0 hLs X0 hl 1 (by omega) (kc := 1) rfl dL_law_201 dL_law_202 dL_law_203 (by decide) dL_law_204 dL_law_205 ?_
  refine lw_arg C0 hLs X0 hl 2 (by omega) (kc := 2) rfl dL_law_206 dL_law_207 dL_law_208 (by decide) dL_law_209 dL_law_210 ?_
  refine lw_cCi C0 clL_13 dL_law_211 (As := [.int (xs (n + 1)), .int (xs (n + 2))]) (rest := []) rfl rfl (fun _ => rfl) hl.1 hcu (cc_child g σ _ _ S1 L1 hC) X0 (fun x1 S1' L1' H1 locs1 hq1 X1 => ?_)
  obtain ⟨e1, hC1⟩ := hq1
  refine lv_aload_n hx hb dL_law_214 rfl (lv_at hl 2 rfl) ?_
  refine lw_arg C0 hLs X1 hl 1 (by omega) (kc := 1) rfl dL_law_215 dL_law_216 dL_law_217 (by decide) dL_law_218 dL_law_219 ?_
  refine lw_arg C0 hLs X1 hl 2 (by omega) (kc := 2) rfl dL_law_220 dL_law_221 dL_law_222 (by decide) dL_law_223 dL_law_224 ?_
  refine lw_cMi C0 clL_17 dL_law_225 (As := [.int (xs (n + 1)), .int (xs (n + 2))]) (rest := [.int x1]) rfl rfl (fun _ => rfl) hl.1 hcu (mc_child g σ _ _ S2 L2 hM hC1.1) X1 (fun x2 S2' L2' H2 locs2 hq2 X2 => ?_)
  obtain ⟨e2, hM2⟩ := hq2
  refine lv_icmp_eq (tgt := 1357) hx hb dL_law_228 (by decide) (fun _ => ?_) (fun h => absurd (e1.trans e2.symm) h)
  exact K _ _ _ _ _ _ _ X2 hC1 hM2
set_option maxRecDepth 20000 in
set_option maxHeartbeats 1000000 in
theorem lw_k1 (C0 : lw_At p s m meth c b L xs) (hLs : L ≤ 3072) {n : Nat} {σ : SIG} (hn : n + 6 ≤ L) (X0 : LWd g s ρ1 ρ2 S1 L1 S2 L2 H locs) (hC : CRel S1 L1 σ) (hM : MRel S2 L2 σ) (hl : lv_has als 4 [(0, .ref b), (1, .ref (ρ1 0)), (2, .ref (ρ2 0)), (3, .int (nI n))]) (hcu : cells ≤ 600000 ∧ slots ≤ 7302250)
    (K : ∀ (σ' : SIG) (S1' : SS) (L1' : LL) (S2' : SS) (L2' : LL) (H' : Heap) (locs' : List Loc), LWd g s ρ1 ρ2 S1' L1' S2' L2' H' locs' → CRel S1' L1' σ' → MRel S2' L2' σ' → W p g.1 e room_1 s m #[Value.ref b] below meth c H' locs' cells slots (lw_Z below #[Value.ref b] s) (F0 m 1357 als [])) :
    W p g.1 e room_1 s m #[Value.ref b] below meth c H locs cells slots (lw_Z below #[Value.ref b] s) (F0 m 233 als []) := by
  obtain ⟨hx, hb, hr, hml, hown, hts, hX, hbl, hlocks, hgv⟩ := id C0
  refine lv_aload_n hx hb dL_law_233 rfl (lv_at hl 1 rfl) ?_
  refine lw_arg C0 hLs X0 hl 1 (by omega) (kc := 1) rfl dL_law_234 dL_law_235 dL_law_236 (by decide) dL_law_237 dL_law_238 ?_
  refine lw_arg C0 hLs X0 hl 2 (by omega) (kc := 2) rfl dL_law_239 dL_law_240 dL_law_241 (by decide) dL_law_242 dL_law_243 ?_
  refine lw_cCi C0 clL_18 dL_law_244 (As := [.int (xs (n + 1)), .int (xs (n + 2))]) (rest := []) rfl rfl (fun _ => rfl) hl.1 hcu (cc_of g σ _ _ S1 L1 hC) X0 (fun x1 S1' L1' H1 locs1 hq1 X1 => ?_)
  obtain ⟨e1, hC1⟩ := hq1
  refine lv_aload_n hx hb dL_law_247 rfl (lv_at hl 2 rfl) ?_
  refine lw_arg C0 hLs X1 hl 1 (by omega) (kc := 1) rfl dL_law_248 dL_law_249 dL_law_250 (by decide) dL_law_251 dL_law_252 ?_
  refine lw_arg C0 hLs X1 hl 2 (by omega) (kc := 2) rfl dL_law_253 dL_law_254 dL_law_255 (by decide) dL_law_256 dL_law_257 ?_
  refine lw_cMi C0 clL_21 dL_law_258 (As := [.int (xs (n + 1)), .int (xs (n + 2))]) (rest := [.int x1]) rfl rfl (fun _ => rfl) hl.1 hcu (mc_of g σ _ _ S2 L2 hM) X1 (fun x2 S2' L2' H2 locs2 hq2 X2 => ?_)
  obtain ⟨e2, hM2⟩ := hq2
  refine lv_icmp_eq (tgt := 1357) hx hb dL_law_261 (by decide) (fun _ => ?_) (fun h => absurd (e1.trans e2.symm) h)
  exact K _ _ _ _ _ _ _ X2 hC1 hM2
set_option maxRecDepth 20000 in
set_option maxHeartbeats 1000000 in
theorem lw_k2 (C0 : lw_At p s m meth c b L xs) (hLs : L ≤ 3072) {n : Nat} {σ : SIG} (hn : n + 6 ≤ L) (X0 : LWd g s ρ1 ρ2 S1 L1 S2 L2 H locs) (hC : CRel S1 L1 σ) (hM : MRel S2 L2 σ) (hl : lv_has als 4 [(0, .ref b), (1, .ref (ρ1 0)), (2, .ref (ρ2 0)), (3, .int (nI n))]) (hcu : cells ≤ 600000 ∧ slots ≤ 7302250)
    (K : ∀ (σ' : SIG) (S1' : SS) (L1' : LL) (S2' : SS) (L2' : LL) (H' : Heap) (locs' : List Loc), LWd g s ρ1 ρ2 S1' L1' S2' L2' H' locs' → CRel S1' L1' σ' → MRel S2' L2' σ' → W p g.1 e room_1 s m #[Value.ref b] below meth c H' locs' cells slots (lw_Z below #[Value.ref b] s) (F0 m 1357 als [])) :
    W p g.1 e room_1 s m #[Value.ref b] below meth c H locs cells slots (lw_Z below #[Value.ref b] s) (F0 m 266 als []) := by
  obtain ⟨hx, hb, hr, hml, hown, hts, hX, hbl, hlocks, hgv⟩ := id C0
  refine lv_aload_n hx hb dL_law_266 rfl (lv_at hl 1 rfl) ?_
  refine lw_arg C0 hLs X0 hl 1 (by omega) (kc := 1) rfl dL_law_267 dL_law_268 dL_law_269 (by decide) dL_law_270 dL_law_271 ?_
  refine lw_arg C0 hLs X0 hl 2 (by omega) (kc := 2) rfl dL_law_272 dL_law_273 dL_law_274 (by decide) dL_law_275 dL_law_276 ?_
  refine lw_arg C0 hLs X0 hl 3 (by omega) (kc := 3) rfl dL_law_277 dL_law_278 dL_law_279 (by decide) dL_law_280 dL_law_281 ?_
  refine lw_cCi C0 clL_22 dL_law_282 (As := [.int (xs (n + 1)), .int (xs (n + 2)), .int (xs (n + 3))]) (rest := []) rfl rfl (fun _ => rfl) hl.1 hcu (cc_set g σ _ _ _ S1 L1 hC) X0 (fun x1 S1' L1' H1 locs1 hq1 X1 => ?_)
  obtain ⟨e1, hC1⟩ := hq1
  refine lv_aload_n hx hb dL_law_285 rfl (lv_at hl 2 rfl) ?_
  refine lw_arg C0 hLs X1 hl 1 (by omega) (kc := 1) rfl dL_law_286 dL_law_287 dL_law_288 (by decide) dL_law_289 dL_law_290 ?_
  refine lw_arg C0 hLs X1 hl 2 (by omega) (kc := 2) rfl dL_law_291 dL_law_292 dL_law_293 (by decide) dL_law_294 dL_law_295 ?_
  refine lw_arg C0 hLs X1 hl 3 (by omega) (kc := 3) rfl dL_law_296 dL_law_297 dL_law_298 (by decide) dL_law_299 dL_law_300 ?_
  refine lw_cMi C0 clL_26 dL_law_301 (As := [.int (xs (n + 1)), .int (xs (n + 2)), .int (xs (n + 3))]) (rest := [.int x1]) rfl rfl (fun _ => rfl) hl.1 hcu (mc_set g σ _ _ _ S2 L2 hM hC1.1) X1 (fun x2 S2' L2' H2 locs2 hq2 X2 => ?_)
  obtain ⟨e2, hM2⟩ := hq2
  refine lv_icmp_eq (tgt := 1357) hx hb dL_law_304 (by decide) (fun _ => ?_) (fun h => absurd (e1.trans e2.symm) h)
  exact K _ _ _ _ _ _ _ X2 hC1 hM2
set_option maxRecDepth 20000 in
set_option maxHeartbeats 1000000 in
theorem lw_k3 (C0 : lw_At p s m meth c b L xs) (hLs : L ≤ 3072) {n : Nat} {σ : SIG} (hn : n + 6 ≤ L) (X0 : LWd g s ρ1 ρ2 S1 L1 S2 L2 H locs) (hC : CRel S1 L1 σ) (hM : MRel S2 L2 σ) (hl : lv_has als 4 [(0, .ref b), (1, .ref (ρ1 0)), (2, .ref (ρ2 0)), (3, .int (nI n))]) (hcu : cells ≤ 600000 ∧ slots ≤ 7302250)
    (K : ∀ (σ' : SIG) (S1' : SS) (L1' : LL) (S2' : SS) (L2' : LL) (H' : Heap) (locs' : List Loc), LWd g s ρ1 ρ2 S1' L1' S2' L2' H' locs' → CRel S1' L1' σ' → MRel S2' L2' σ' → W p g.1 e room_1 s m #[Value.ref b] below meth c H' locs' cells slots (lw_Z below #[Value.ref b] s) (F0 m 1357 als [])) :
    W p g.1 e room_1 s m #[Value.ref b] below meth c H locs cells slots (lw_Z below #[Value.ref b] s) (F0 m 309 als []) := by
  obtain ⟨hx, hb, hr, hml, hown, hts, hX, hbl, hlocks, hgv⟩ := id C0
  refine lv_aload_n hx hb dL_law_309 rfl (lv_at hl 1 rfl) ?_
  refine lw_arg C0 hLs X0 hl 1 (by omega) (kc := 1) rfl dL_law_310 dL_law_311 dL_law_312 (by decide) dL_law_313 dL_law_314 ?_
  refine lw_arg C0 hLs X0 hl 2 (by omega) (kc := 2) rfl dL_law_315 dL_law_316 dL_law_317 (by decide) dL_law_318 dL_law_319 ?_
  refine lw_arg C0 hLs X0 hl 3 (by omega) (kc := 3) rfl dL_law_320 dL_law_321 dL_law_322 (by decide) dL_law_323 dL_law_324 ?_
  refine lw_cCi C0 clL_27 dL_law_325 (As := [.int (xs (n + 1)), .int (xs (n + 2)), .int (xs (n + 3))]) (rest := []) rfl rfl (fun _ => rfl) hl.1 hcu (cc_row g σ _ _ _ S1 L1 hC) X0 (fun x1 S1' L1' H1 locs1 hq1 X1 => ?_)
  obtain ⟨e1, hC1⟩ := hq1
  refine lv_aload_n hx hb dL_law_328 rfl (lv_at hl 2 rfl) ?_
  refine lw_arg C0 hLs X1 hl 1 (by omega) (kc := 1) rfl dL_law_329 dL_law_330 dL_law_331 (by decide) dL_law_332 dL_law_333 ?_
  refine lw_arg C0 hLs X1 hl 2 (by omega) (kc := 2) rfl dL_law_334 dL_law_335 dL_law_336 (by decide) dL_law_337 dL_law_338 ?_
  refine lw_arg C0 hLs X1 hl 3 (by omega) (kc := 3) rfl dL_law_339 dL_law_340 dL_law_341 (by decide) dL_law_342 dL_law_343 ?_
  refine lw_cMi C0 clL_30 dL_law_344 (As := [.int (xs (n + 1)), .int (xs (n + 2)), .int (xs (n + 3))]) (rest := [.int x1]) rfl rfl (fun _ => rfl) hl.1 hcu (mc_row g σ _ _ _ S2 L2 hM hC1.1) X1 (fun x2 S2' L2' H2 locs2 hq2 X2 => ?_)
  obtain ⟨e2, hM2⟩ := hq2
  refine lv_icmp_eq (tgt := 1357) hx hb dL_law_347 (by decide) (fun _ => ?_) (fun h => absurd (e1.trans e2.symm) h)
  exact K _ _ _ _ _ _ _ X2 hC1 hM2
set_option maxRecDepth 20000 in
set_option maxHeartbeats 1000000 in
theorem lw_k4 (C0 : lw_At p s m meth c b L xs) (hLs : L ≤ 3072) {n : Nat} {σ : SIG} (hn : n + 6 ≤ L) (X0 : LWd g s ρ1 ρ2 S1 L1 S2 L2 H locs) (hC : CRel S1 L1 σ) (hM : MRel S2 L2 σ) (hl : lv_has als 4 [(0, .ref b), (1, .ref (ρ1 0)), (2, .ref (ρ2 0)), (3, .int (nI n))]) (hcu : cells ≤ 600000 ∧ slots ≤ 7302250)
    (K : ∀ (σ' : SIG) (S1' : SS) (L1' : LL) (S2' : SS) (L2' : LL) (H' : Heap) (locs' : List Loc), LWd g s ρ1 ρ2 S1' L1' S2' L2' H' locs' → CRel S1' L1' σ' → MRel S2' L2' σ' → W p g.1 e room_1 s m #[Value.ref b] below meth c H' locs' cells slots (lw_Z below #[Value.ref b] s) (F0 m 1357 als [])) :
    W p g.1 e room_1 s m #[Value.ref b] below meth c H locs cells slots (lw_Z below #[Value.ref b] s) (F0 m 352 als []) := by
  obtain ⟨hx, hb, hr, hml, hown, hts, hX, hbl, hlocks, hgv⟩ := id C0
  refine lv_aload_n hx hb dL_law_352 rfl (lv_at hl 1 rfl) ?_
  refine lw_arg C0 hLs X0 hl 1 (by omega) (kc := 1) rfl dL_law_353 dL_law_354 dL_law_355 (by decide) dL_law_356 dL_law_357 ?_
  refine lw_arg C0 hLs X0 hl 2 (by omega) (kc := 2) rfl dL_law_358 dL_law_359 dL_law_360 (by decide) dL_law_361 dL_law_362 ?_
  refine lw_cCi C0 clL_31 dL_law_363 (As := [.int (xs (n + 1)), .int (xs (n + 2))]) (rest := []) rfl rfl (fun _ => rfl) hl.1 hcu (cc_counts g σ _ _ S1 L1 hC) X0 (fun x1 S1' L1' H1 locs1 hq1 X1 => ?_)
  obtain ⟨e1, hC1⟩ := hq1
  refine lv_aload_n hx hb dL_law_366 rfl (lv_at hl 2 rfl) ?_
  refine lw_arg C0 hLs X1 hl 1 (by omega) (kc := 1) rfl dL_law_367 dL_law_368 dL_law_369 (by decide) dL_law_370 dL_law_371 ?_
  refine lw_arg C0 hLs X1 hl 2 (by omega) (kc := 2) rfl dL_law_372 dL_law_373 dL_law_374 (by decide) dL_law_375 dL_law_376 ?_
  refine lw_cMi C0 clL_34 dL_law_377 (As := [.int (xs (n + 1)), .int (xs (n + 2))]) (rest := [.int x1]) rfl rfl (fun _ => rfl) hl.1 hcu (mc_counts g σ _ _ S2 L2 hM hC1.1) X1 (fun x2 S2' L2' H2 locs2 hq2 X2 => ?_)
  obtain ⟨e2, hM2⟩ := hq2
  refine lv_icmp_eq (tgt := 1357) hx hb dL_law_380 (by decide) (fun _ => ?_) (fun h => absurd (e1.trans e2.symm) h)
  exact K _ _ _ _ _ _ _ X2 hC1 hM2
set_option maxRecDepth 20000 in
set_option maxHeartbeats 1000000 in
theorem lw_k5 (C0 : lw_At p s m meth c b L xs) (hLs : L ≤ 3072) {n : Nat} {σ : SIG} (hn : n + 6 ≤ L) (X0 : LWd g s ρ1 ρ2 S1 L1 S2 L2 H locs) (hC : CRel S1 L1 σ) (hM : MRel S2 L2 σ) (hl : lv_has als 4 [(0, .ref b), (1, .ref (ρ1 0)), (2, .ref (ρ2 0)), (3, .int (nI n))]) (hcu : cells ≤ 600000 ∧ slots ≤ 7302250)
    (K : ∀ (σ' : SIG) (S1' : SS) (L1' : LL) (S2' : SS) (L2' : LL) (H' : Heap) (locs' : List Loc), LWd g s ρ1 ρ2 S1' L1' S2' L2' H' locs' → CRel S1' L1' σ' → MRel S2' L2' σ' → W p g.1 e room_1 s m #[Value.ref b] below meth c H' locs' cells slots (lw_Z below #[Value.ref b] s) (F0 m 1357 als [])) :
    W p g.1 e room_1 s m #[Value.ref b] below meth c H locs cells slots (lw_Z below #[Value.ref b] s) (F0 m 385 als []) := by
  obtain ⟨hx, hb, hr, hml, hown, hts, hX, hbl, hlocks, hgv⟩ := id C0
  refine lv_aload_n hx hb dL_law_385 rfl (lv_at hl 1 rfl) ?_
  refine lw_arg C0 hLs X0 hl 1 (by omega) (kc := 1) rfl dL_law_386 dL_law_387 dL_law_388 (by decide) dL_law_389 dL_law_390 ?_
  refine lw_cCi C0 clL_35 dL_law_391 (As := [.int (xs (n + 1))]) (rest := []) rfl rfl (fun _ => rfl) hl.1 hcu (cc_feed g σ _ S1 L1 hC) X0 (fun x1 S1' L1' H1 locs1 hq1 X1 => ?_)
  obtain ⟨e1, hC1⟩ := hq1
  refine lv_aload_n hx hb dL_law_394 rfl (lv_at hl 2 rfl) ?_
  refine lw_arg C0 hLs X1 hl 1 (by omega) (kc := 1) rfl dL_law_395 dL_law_396 dL_law_397 (by decide) dL_law_398 dL_law_399 ?_
  refine lw_cMi C0 clL_39 dL_law_400 (As := [.int (xs (n + 1))]) (rest := [.int x1]) rfl rfl (fun _ => rfl) hl.1 hcu (mc_feed g σ _ S2 L2 hM hC1.1) X1 (fun x2 S2' L2' H2 locs2 hq2 X2 => ?_)
  obtain ⟨e2, hM2⟩ := hq2
  refine lv_icmp_eq (tgt := 1357) hx hb dL_law_403 (by decide) (fun _ => ?_) (fun h => absurd (e1.trans e2.symm) h)
  exact K _ _ _ _ _ _ _ X2 hC1 hM2
set_option maxRecDepth 20000 in
set_option maxHeartbeats 1000000 in
theorem lw_k6 (C0 : lw_At p s m meth c b L xs) (hLs : L ≤ 3072) {n : Nat} {σ : SIG} (hn : n + 6 ≤ L) (X0 : LWd g s ρ1 ρ2 S1 L1 S2 L2 H locs) (hC : CRel S1 L1 σ) (hM : MRel S2 L2 σ) (hl : lv_has als 4 [(0, .ref b), (1, .ref (ρ1 0)), (2, .ref (ρ2 0)), (3, .int (nI n))]) (hcu : cells ≤ 600000 ∧ slots ≤ 7302250)
    (K : ∀ (σ' : SIG) (S1' : SS) (L1' : LL) (S2' : SS) (L2' : LL) (H' : Heap) (locs' : List Loc), LWd g s ρ1 ρ2 S1' L1' S2' L2' H' locs' → CRel S1' L1' σ' → MRel S2' L2' σ' → W p g.1 e room_1 s m #[Value.ref b] below meth c H' locs' cells slots (lw_Z below #[Value.ref b] s) (F0 m 1357 als [])) :
    W p g.1 e room_1 s m #[Value.ref b] below meth c H locs cells slots (lw_Z below #[Value.ref b] s) (F0 m 408 als []) := by
  obtain ⟨hx, hb, hr, hml, hown, hts, hX, hbl, hlocks, hgv⟩ := id C0
  refine lv_aload_n hx hb dL_law_408 rfl (lv_at hl 1 rfl) ?_
  refine lw_cCi C0 clL_40 dL_law_409 (As := []) (rest := []) rfl rfl (fun _ => rfl) hl.1 hcu (cc_yard g σ  S1 L1 hC) X0 (fun x1 S1' L1' H1 locs1 hq1 X1 => ?_)
  obtain ⟨e1, hC1⟩ := hq1
  refine lv_aload_n hx hb dL_law_412 rfl (lv_at hl 2 rfl) ?_
  refine lw_cMi C0 clL_44 dL_law_413 (As := []) (rest := [.int x1]) rfl rfl (fun _ => rfl) hl.1 hcu (mc_yard g σ  S2 L2 hM hC1.1 (yard_wf hC1)) X1 (fun x2 S2' L2' H2 locs2 hq2 X2 => ?_)
  obtain ⟨e2, hM2⟩ := hq2
  refine lv_icmp_eq (tgt := 1357) hx hb dL_law_416 (by decide) (fun _ => ?_) (fun h => absurd (e1.trans e2.symm) h)
  exact K _ _ _ _ _ _ _ X2 hC1 hM2
set_option maxRecDepth 20000 in
set_option maxHeartbeats 1000000 in
theorem lw_k7 (C0 : lw_At p s m meth c b L xs) (hLs : L ≤ 3072) {n : Nat} {σ : SIG} (hn : n + 6 ≤ L) (X0 : LWd g s ρ1 ρ2 S1 L1 S2 L2 H locs) (hC : CRel S1 L1 σ) (hM : MRel S2 L2 σ) (hl : lv_has als 4 [(0, .ref b), (1, .ref (ρ1 0)), (2, .ref (ρ2 0)), (3, .int (nI n))]) (hcu : cells ≤ 600000 ∧ slots ≤ 7302250)
    (K : ∀ (σ' : SIG) (S1' : SS) (L1' : LL) (S2' : SS) (L2' : LL) (H' : Heap) (locs' : List Loc), LWd g s ρ1 ρ2 S1' L1' S2' L2' H' locs' → CRel S1' L1' σ' → MRel S2' L2' σ' → W p g.1 e room_1 s m #[Value.ref b] below meth c H' locs' cells slots (lw_Z below #[Value.ref b] s) (F0 m 1357 als [])) :
    W p g.1 e room_1 s m #[Value.ref b] below meth c H locs cells slots (lw_Z below #[Value.ref b] s) (F0 m 421 als []) := by
  obtain ⟨hx, hb, hr, hml, hown, hts, hX, hbl, hlocks, hgv⟩ := id C0
  refine lv_aload_n hx hb dL_law_421 rfl (lv_at hl 1 rfl) ?_
  refine lw_arg C0 hLs X0 hl 1 (by omega) (kc := 1) rfl dL_law_422 dL_law_423 dL_law_424 (by decide) dL_law_425 dL_law_426 ?_
  refine lw_cCi C0 clL_45 dL_law_427 (As := [.int (xs (n + 1))]) (rest := []) rfl rfl (fun _ => rfl) hl.1 hcu (cc_told g σ _ S1 L1 hC) X0 (fun x1 S1' L1' H1 locs1 hq1 X1 => ?_)
  obtain ⟨e1, hC1⟩ := hq1
  refine lv_aload_n hx hb dL_law_430 rfl (lv_at hl 2 rfl) ?_
  refine lw_arg C0 hLs X1 hl 1 (by omega) (kc := 1) rfl dL_law_431 dL_law_432 dL_law_433 (by decide) dL_law_434 dL_law_435 ?_
  refine lw_cMi C0 clL_48 dL_law_436 (As := [.int (xs (n + 1))]) (rest := [.int x1]) rfl rfl (fun _ => rfl) hl.1 hcu (mc_told g σ _ S2 L2 hM) X1 (fun x2 S2' L2' H2 locs2 hq2 X2 => ?_)
  obtain ⟨e2, hM2⟩ := hq2
  refine lv_icmp_eq (tgt := 1357) hx hb dL_law_439 (by decide) (fun _ => ?_) (fun h => absurd (e1.trans e2.symm) h)
  exact K _ _ _ _ _ _ _ X2 hC1 hM2
set_option maxRecDepth 20000 in
set_option maxHeartbeats 1000000 in
theorem lw_k8 (C0 : lw_At p s m meth c b L xs) (hLs : L ≤ 3072) {n : Nat} {σ : SIG} (hn : n + 6 ≤ L) (X0 : LWd g s ρ1 ρ2 S1 L1 S2 L2 H locs) (hC : CRel S1 L1 σ) (hM : MRel S2 L2 σ) (hl : lv_has als 4 [(0, .ref b), (1, .ref (ρ1 0)), (2, .ref (ρ2 0)), (3, .int (nI n))]) (hcu : cells ≤ 600000 ∧ slots ≤ 7302250)
    (K : ∀ (σ' : SIG) (S1' : SS) (L1' : LL) (S2' : SS) (L2' : LL) (H' : Heap) (locs' : List Loc), LWd g s ρ1 ρ2 S1' L1' S2' L2' H' locs' → CRel S1' L1' σ' → MRel S2' L2' σ' → W p g.1 e room_1 s m #[Value.ref b] below meth c H' locs' cells slots (lw_Z below #[Value.ref b] s) (F0 m 1357 als [])) :
    W p g.1 e room_1 s m #[Value.ref b] below meth c H locs cells slots (lw_Z below #[Value.ref b] s) (F0 m 444 als []) := by
  obtain ⟨hx, hb, hr, hml, hown, hts, hX, hbl, hlocks, hgv⟩ := id C0
  refine lv_aload_n hx hb dL_law_444 rfl (lv_at hl 1 rfl) ?_
  refine lw_cCi C0 clL_49 dL_law_445 (As := []) (rest := []) rfl rfl (fun _ => rfl) hl.1 hcu (cc_turn g σ  S1 L1 hC) X0 (fun x1 S1' L1' H1 locs1 hq1 X1 => ?_)
  obtain ⟨e1, hC1⟩ := hq1
  refine lv_aload_n hx hb dL_law_448 rfl (lv_at hl 2 rfl) ?_
  refine lw_cMi C0 clL_52 dL_law_449 (As := []) (rest := [.int x1]) rfl rfl (fun _ => rfl) hl.1 hcu (mc_turn g σ  S2 L2 hM) X1 (fun x2 S2' L2' H2 locs2 hq2 X2 => ?_)
  obtain ⟨e2, hM2⟩ := hq2
  refine lv_icmp_eq (tgt := 1357) hx hb dL_law_452 (by decide) (fun _ => ?_) (fun h => absurd (e1.trans e2.symm) h)
  exact K _ _ _ _ _ _ _ X2 hC1 hM2
set_option maxRecDepth 20000 in
set_option maxHeartbeats 1000000 in
theorem lw_k9 (C0 : lw_At p s m meth c b L xs) (hLs : L ≤ 3072) {n : Nat} {σ : SIG} (hn : n + 6 ≤ L) (X0 : LWd g s ρ1 ρ2 S1 L1 S2 L2 H locs) (hC : CRel S1 L1 σ) (hM : MRel S2 L2 σ) (hl : lv_has als 4 [(0, .ref b), (1, .ref (ρ1 0)), (2, .ref (ρ2 0)), (3, .int (nI n))]) (hcu : cells ≤ 600000 ∧ slots ≤ 7302250)
    (K : ∀ (σ' : SIG) (S1' : SS) (L1' : LL) (S2' : SS) (L2' : LL) (H' : Heap) (locs' : List Loc), LWd g s ρ1 ρ2 S1' L1' S2' L2' H' locs' → CRel S1' L1' σ' → MRel S2' L2' σ' → W p g.1 e room_1 s m #[Value.ref b] below meth c H' locs' cells slots (lw_Z below #[Value.ref b] s) (F0 m 1357 als [])) :
    W p g.1 e room_1 s m #[Value.ref b] below meth c H locs cells slots (lw_Z below #[Value.ref b] s) (F0 m 457 als []) := by
  obtain ⟨hx, hb, hr, hml, hown, hts, hX, hbl, hlocks, hgv⟩ := id C0
  refine lv_aload_n hx hb dL_law_457 rfl (lv_at hl 1 rfl) ?_
  refine lw_arg C0 hLs X0 hl 1 (by omega) (kc := 1) rfl dL_law_458 dL_law_459 dL_law_460 (by decide) dL_law_461 dL_law_462 ?_
  refine lw_arg C0 hLs X0 hl 2 (by omega) (kc := 2) rfl dL_law_463 dL_law_464 dL_law_465 (by decide) dL_law_466 dL_law_467 ?_
  refine lw_cCi C0 clL_53 dL_law_468 (As := [.int (xs (n + 1)), .int (xs (n + 2))]) (rest := []) rfl rfl (fun _ => rfl) hl.1 hcu (cc_on g σ _ _ S1 L1 hC) X0 (fun x1 S1' L1' H1 locs1 hq1 X1 => ?_)
  obtain ⟨e1, hC1⟩ := hq1
  refine lv_aload_n hx hb dL_law_471 rfl (lv_at hl 2 rfl) ?_
  refine lw_arg C0 hLs X1 hl 1 (by omega) (kc := 1) rfl dL_law_472 dL_law_473 dL_law_474 (by decide) dL_law_475 dL_law_476 ?_
  refine lw_arg C0 hLs X1 hl 2 (by omega) (kc := 2) rfl dL_law_477 dL_law_478 dL_law_479 (by decide) dL_law_480 dL_law_481 ?_
  refine lw_cMi C0 clL_56 dL_law_482 (As := [.int (xs (n + 1)), .int (xs (n + 2))]) (rest := [.int x1]) rfl rfl (fun _ => rfl) hl.1 hcu (mc_on g σ _ _ S2 L2 hM) X1 (fun x2 S2' L2' H2 locs2 hq2 X2 => ?_)
  obtain ⟨e2, hM2⟩ := hq2
  refine lv_icmp_eq (tgt := 1357) hx hb dL_law_485 (by decide) (fun _ => ?_) (fun h => absurd (e1.trans e2.symm) h)
  exact K _ _ _ _ _ _ _ X2 hC1 hM2
set_option maxRecDepth 20000 in
set_option maxHeartbeats 1000000 in
theorem lw_k10 (C0 : lw_At p s m meth c b L xs) (hLs : L ≤ 3072) {n : Nat} {σ : SIG} (hn : n + 6 ≤ L) (X0 : LWd g s ρ1 ρ2 S1 L1 S2 L2 H locs) (hC : CRel S1 L1 σ) (hM : MRel S2 L2 σ) (hl : lv_has als 4 [(0, .ref b), (1, .ref (ρ1 0)), (2, .ref (ρ2 0)), (3, .int (nI n))]) (hcu : cells ≤ 600000 ∧ slots ≤ 7302250)
    (K : ∀ (σ' : SIG) (S1' : SS) (L1' : LL) (S2' : SS) (L2' : LL) (H' : Heap) (locs' : List Loc), LWd g s ρ1 ρ2 S1' L1' S2' L2' H' locs' → CRel S1' L1' σ' → MRel S2' L2' σ' → W p g.1 e room_1 s m #[Value.ref b] below meth c H' locs' cells slots (lw_Z below #[Value.ref b] s) (F0 m 1357 als [])) :
    W p g.1 e room_1 s m #[Value.ref b] below meth c H locs cells slots (lw_Z below #[Value.ref b] s) (F0 m 490 als []) := by
  obtain ⟨hx, hb, hr, hml, hown, hts, hX, hbl, hlocks, hgv⟩ := id C0
  refine lv_aload_n hx hb dL_law_490 rfl (lv_at hl 1 rfl) ?_
  refine lw_arg C0 hLs X0 hl 1 (by omega) (kc := 1) rfl dL_law_491 dL_law_492 dL_law_493 (by decide) dL_law_494 dL_law_495 ?_
  refine lw_cCi C0 clL_57 dL_law_496 (As := [.int (xs (n + 1))]) (rest := []) rfl rfl (fun _ => rfl) hl.1 hcu (cc_touches g σ _ S1 L1 hC) X0 (fun x1 S1' L1' H1 locs1 hq1 X1 => ?_)
  obtain ⟨e1, hC1⟩ := hq1
  refine lv_aload_n hx hb dL_law_499 rfl (lv_at hl 2 rfl) ?_
  refine lw_arg C0 hLs X1 hl 1 (by omega) (kc := 1) rfl dL_law_500 dL_law_501 dL_law_502 (by decide) dL_law_503 dL_law_504 ?_
  refine lw_cMi C0 clL_60 dL_law_505 (As := [.int (xs (n + 1))]) (rest := [.int x1]) rfl rfl (fun _ => rfl) hl.1 hcu (mc_touches g σ _ S2 L2 hM) X1 (fun x2 S2' L2' H2 locs2 hq2 X2 => ?_)
  obtain ⟨e2, hM2⟩ := hq2
  refine lv_icmp_eq (tgt := 1357) hx hb dL_law_508 (by decide) (fun _ => ?_) (fun h => absurd (e1.trans e2.symm) h)
  exact K _ _ _ _ _ _ _ X2 hC1 hM2
set_option maxRecDepth 20000 in
set_option maxHeartbeats 1000000 in
theorem lw_k11 (C0 : lw_At p s m meth c b L xs) (hLs : L ≤ 3072) {n : Nat} {σ : SIG} (hn : n + 6 ≤ L) (X0 : LWd g s ρ1 ρ2 S1 L1 S2 L2 H locs) (hC : CRel S1 L1 σ) (hM : MRel S2 L2 σ) (hl : lv_has als 4 [(0, .ref b), (1, .ref (ρ1 0)), (2, .ref (ρ2 0)), (3, .int (nI n))]) (hcu : cells ≤ 600000 ∧ slots ≤ 7302250)
    (K : ∀ (σ' : SIG) (S1' : SS) (L1' : LL) (S2' : SS) (L2' : LL) (H' : Heap) (locs' : List Loc), LWd g s ρ1 ρ2 S1' L1' S2' L2' H' locs' → CRel S1' L1' σ' → MRel S2' L2' σ' → W p g.1 e room_1 s m #[Value.ref b] below meth c H' locs' cells slots (lw_Z below #[Value.ref b] s) (F0 m 1357 als [])) :
    W p g.1 e room_1 s m #[Value.ref b] below meth c H locs cells slots (lw_Z below #[Value.ref b] s) (F0 m 513 als []) := by
  obtain ⟨hx, hb, hr, hml, hown, hts, hX, hbl, hlocks, hgv⟩ := id C0
  refine lv_aload_n hx hb dL_law_513 rfl (lv_at hl 1 rfl) ?_
  refine lw_cCi C0 clL_61 dL_law_514 (As := []) (rest := []) rfl rfl (fun _ => rfl) hl.1 hcu (cc_first g σ  S1 L1 hC) X0 (fun x1 S1' L1' H1 locs1 hq1 X1 => ?_)
  obtain ⟨e1, hC1⟩ := hq1
  refine lv_aload_n hx hb dL_law_517 rfl (lv_at hl 2 rfl) ?_
  refine lw_cMi C0 clL_64 dL_law_518 (As := []) (rest := [.int x1]) rfl rfl (fun _ => rfl) hl.1 hcu (mc_first g σ  S2 L2 hM) X1 (fun x2 S2' L2' H2 locs2 hq2 X2 => ?_)
  obtain ⟨e2, hM2⟩ := hq2
  refine lv_icmp_eq (tgt := 1357) hx hb dL_law_521 (by decide) (fun _ => ?_) (fun h => absurd (e1.trans e2.symm) h)
  exact K _ _ _ _ _ _ _ X2 hC1 hM2
set_option maxRecDepth 20000 in
set_option maxHeartbeats 1000000 in
theorem lw_k12 (C0 : lw_At p s m meth c b L xs) (hLs : L ≤ 3072) {n : Nat} {σ : SIG} (hn : n + 6 ≤ L) (X0 : LWd g s ρ1 ρ2 S1 L1 S2 L2 H locs) (hC : CRel S1 L1 σ) (hM : MRel S2 L2 σ) (hl : lv_has als 4 [(0, .ref b), (1, .ref (ρ1 0)), (2, .ref (ρ2 0)), (3, .int (nI n))]) (hcu : cells ≤ 600000 ∧ slots ≤ 7302250)
    (K : ∀ (σ' : SIG) (S1' : SS) (L1' : LL) (S2' : SS) (L2' : LL) (H' : Heap) (locs' : List Loc), LWd g s ρ1 ρ2 S1' L1' S2' L2' H' locs' → CRel S1' L1' σ' → MRel S2' L2' σ' → W p g.1 e room_1 s m #[Value.ref b] below meth c H' locs' cells slots (lw_Z below #[Value.ref b] s) (F0 m 1357 als [])) :
    W p g.1 e room_1 s m #[Value.ref b] below meth c H locs cells slots (lw_Z below #[Value.ref b] s) (F0 m 526 als []) := by
  obtain ⟨hx, hb, hr, hml, hown, hts, hX, hbl, hlocks, hgv⟩ := id C0
  refine lv_aload_n hx hb dL_law_526 rfl (lv_at hl 1 rfl) ?_
  refine lw_cCi C0 clL_65 dL_law_527 (As := []) (rest := []) rfl rfl (fun _ => rfl) hl.1 hcu (cc_risks g σ  S1 L1 hC) X0 (fun x1 S1' L1' H1 locs1 hq1 X1 => ?_)
  obtain ⟨e1, hC1⟩ := hq1
  refine lv_aload_n hx hb dL_law_530 rfl (lv_at hl 2 rfl) ?_
  refine lw_cMi C0 clL_68 dL_law_531 (As := []) (rest := [.int x1]) rfl rfl (fun _ => rfl) hl.1 hcu (mc_risks g σ  S2 L2 hM) X1 (fun x2 S2' L2' H2 locs2 hq2 X2 => ?_)
  obtain ⟨e2, hM2⟩ := hq2
  refine lv_icmp_eq (tgt := 1357) hx hb dL_law_534 (by decide) (fun _ => ?_) (fun h => absurd (e1.trans e2.symm) h)
  exact K _ _ _ _ _ _ _ X2 hC1 hM2
set_option maxRecDepth 20000 in
set_option maxHeartbeats 1000000 in
theorem lw_k13 (C0 : lw_At p s m meth c b L xs) (hLs : L ≤ 3072) {n : Nat} {σ : SIG} (hn : n + 6 ≤ L) (X0 : LWd g s ρ1 ρ2 S1 L1 S2 L2 H locs) (hC : CRel S1 L1 σ) (hM : MRel S2 L2 σ) (hl : lv_has als 4 [(0, .ref b), (1, .ref (ρ1 0)), (2, .ref (ρ2 0)), (3, .int (nI n))]) (hcu : cells ≤ 600000 ∧ slots ≤ 7302250)
    (K : ∀ (σ' : SIG) (S1' : SS) (L1' : LL) (S2' : SS) (L2' : LL) (H' : Heap) (locs' : List Loc), LWd g s ρ1 ρ2 S1' L1' S2' L2' H' locs' → CRel S1' L1' σ' → MRel S2' L2' σ' → W p g.1 e room_1 s m #[Value.ref b] below meth c H' locs' cells slots (lw_Z below #[Value.ref b] s) (F0 m 1357 als [])) :
    W p g.1 e room_1 s m #[Value.ref b] below meth c H locs cells slots (lw_Z below #[Value.ref b] s) (F0 m 539 als []) := by
  obtain ⟨hx, hb, hr, hml, hown, hts, hX, hbl, hlocks, hgv⟩ := id C0
  refine lv_aload_n hx hb dL_law_539 rfl (lv_at hl 1 rfl) ?_
  refine lw_arg C0 hLs X0 hl 1 (by omega) (kc := 1) rfl dL_law_540 dL_law_541 dL_law_542 (by decide) dL_law_543 dL_law_544 ?_
  refine lw_cCi C0 clL_69 dL_law_545 (As := [.int (xs (n + 1))]) (rest := []) rfl rfl (fun _ => rfl) hl.1 hcu (cc_stands g σ _ S1 L1 hC) X0 (fun x1 S1' L1' H1 locs1 hq1 X1 => ?_)
  obtain ⟨e1, hC1⟩ := hq1
  refine lv_aload_n hx hb dL_law_548 rfl (lv_at hl 2 rfl) ?_
  refine lw_arg C0 hLs X1 hl 1 (by omega) (kc := 1) rfl dL_law_549 dL_law_550 dL_law_551 (by decide) dL_law_552 dL_law_553 ?_
  refine lw_cMi C0 clL_72 dL_law_554 (As := [.int (xs (n + 1))]) (rest := [.int x1]) rfl rfl (fun _ => rfl) hl.1 hcu (mc_stands g σ _ S2 L2 hM) X1 (fun x2 S2' L2' H2 locs2 hq2 X2 => ?_)
  obtain ⟨e2, hM2⟩ := hq2
  refine lv_icmp_eq (tgt := 1357) hx hb dL_law_557 (by decide) (fun _ => ?_) (fun h => absurd (e1.trans e2.symm) h)
  exact K _ _ _ _ _ _ _ X2 hC1 hM2
set_option maxRecDepth 20000 in
set_option maxHeartbeats 1000000 in
theorem lw_k14 (C0 : lw_At p s m meth c b L xs) (hLs : L ≤ 3072) {n : Nat} {σ : SIG} (hn : n + 6 ≤ L) (X0 : LWd g s ρ1 ρ2 S1 L1 S2 L2 H locs) (hC : CRel S1 L1 σ) (hM : MRel S2 L2 σ) (hl : lv_has als 4 [(0, .ref b), (1, .ref (ρ1 0)), (2, .ref (ρ2 0)), (3, .int (nI n))]) (hcu : cells ≤ 600000 ∧ slots ≤ 7302250)
    (K : ∀ (σ' : SIG) (S1' : SS) (L1' : LL) (S2' : SS) (L2' : LL) (H' : Heap) (locs' : List Loc), LWd g s ρ1 ρ2 S1' L1' S2' L2' H' locs' → CRel S1' L1' σ' → MRel S2' L2' σ' → W p g.1 e room_1 s m #[Value.ref b] below meth c H' locs' cells slots (lw_Z below #[Value.ref b] s) (F0 m 1357 als [])) :
    W p g.1 e room_1 s m #[Value.ref b] below meth c H locs cells slots (lw_Z below #[Value.ref b] s) (F0 m 562 als []) := by
  obtain ⟨hx, hb, hr, hml, hown, hts, hX, hbl, hlocks, hgv⟩ := id C0
  refine lv_aload_n hx hb dL_law_562 rfl (lv_at hl 1 rfl) ?_
  refine lw_arg C0 hLs X0 hl 1 (by omega) (kc := 1) rfl dL_law_563 dL_law_564 dL_law_565 (by decide) dL_law_566 dL_law_567 ?_
  refine lw_arg C0 hLs X0 hl 2 (by omega) (kc := 2) rfl dL_law_568 dL_law_569 dL_law_570 (by decide) dL_law_571 dL_law_572 ?_
  refine lw_cCi C0 clL_73 dL_law_573 (As := [.int (xs (n + 1)), .int (xs (n + 2))]) (rest := []) rfl rfl (fun _ => rfl) hl.1 hcu (cc_slow g σ _ _ S1 L1 hC) X0 (fun x1 S1' L1' H1 locs1 hq1 X1 => ?_)
  obtain ⟨e1, hC1⟩ := hq1
  refine lv_aload_n hx hb dL_law_576 rfl (lv_at hl 2 rfl) ?_
  refine lw_arg C0 hLs X1 hl 1 (by omega) (kc := 1) rfl dL_law_577 dL_law_578 dL_law_579 (by decide) dL_law_580 dL_law_581 ?_
  refine lw_arg C0 hLs X1 hl 2 (by omega) (kc := 2) rfl dL_law_582 dL_law_583 dL_law_584 (by decide) dL_law_585 dL_law_586 ?_
  refine lw_cMi C0 clL_76 dL_law_587 (As := [.int (xs (n + 1)), .int (xs (n + 2))]) (rest := [.int x1]) rfl rfl (fun _ => rfl) hl.1 hcu (mc_slow g σ _ _ S2 L2 hM) X1 (fun x2 S2' L2' H2 locs2 hq2 X2 => ?_)
  obtain ⟨e2, hM2⟩ := hq2
  refine lv_icmp_eq (tgt := 1357) hx hb dL_law_590 (by decide) (fun _ => ?_) (fun h => absurd (e1.trans e2.symm) h)
  exact K _ _ _ _ _ _ _ X2 hC1 hM2
set_option maxRecDepth 20000 in
set_option maxHeartbeats 1000000 in
theorem lw_k15 (C0 : lw_At p s m meth c b L xs) (hLs : L ≤ 3072) {n : Nat} {σ : SIG} (hn : n + 6 ≤ L) (X0 : LWd g s ρ1 ρ2 S1 L1 S2 L2 H locs) (hC : CRel S1 L1 σ) (hM : MRel S2 L2 σ) (hl : lv_has als 4 [(0, .ref b), (1, .ref (ρ1 0)), (2, .ref (ρ2 0)), (3, .int (nI n))]) (hcu : cells ≤ 600000 ∧ slots ≤ 7302250)
    (K : ∀ (σ' : SIG) (S1' : SS) (L1' : LL) (S2' : SS) (L2' : LL) (H' : Heap) (locs' : List Loc), LWd g s ρ1 ρ2 S1' L1' S2' L2' H' locs' → CRel S1' L1' σ' → MRel S2' L2' σ' → W p g.1 e room_1 s m #[Value.ref b] below meth c H' locs' cells slots (lw_Z below #[Value.ref b] s) (F0 m 1357 als [])) :
    W p g.1 e room_1 s m #[Value.ref b] below meth c H locs cells slots (lw_Z below #[Value.ref b] s) (F0 m 595 als []) := by
  obtain ⟨hx, hb, hr, hml, hown, hts, hX, hbl, hlocks, hgv⟩ := id C0
  refine lv_aload_n hx hb dL_law_595 rfl (lv_at hl 1 rfl) ?_
  refine lw_arg C0 hLs X0 hl 1 (by omega) (kc := 1) rfl dL_law_596 dL_law_597 dL_law_598 (by decide) dL_law_599 dL_law_600 ?_
  refine lw_arg C0 hLs X0 hl 2 (by omega) (kc := 2) rfl dL_law_601 dL_law_602 dL_law_603 (by decide) dL_law_604 dL_law_605 ?_
  refine lw_cCi C0 clL_77 dL_law_606 (As := [.int (xs (n + 1)), .int (xs (n + 2))]) (rest := []) rfl rfl (fun _ => rfl) hl.1 hcu (cc_order g σ _ _ S1 L1 hC) X0 (fun x1 S1' L1' H1 locs1 hq1 X1 => ?_)
  obtain ⟨e1, hC1⟩ := hq1
  refine lv_aload_n hx hb dL_law_609 rfl (lv_at hl 2 rfl) ?_
  refine lw_arg C0 hLs X1 hl 1 (by omega) (kc := 1) rfl dL_law_610 dL_law_611 dL_law_612 (by decide) dL_law_613 dL_law_614 ?_
  refine lw_arg C0 hLs X1 hl 2 (by omega) (kc := 2) rfl dL_law_615 dL_law_616 dL_law_617 (by decide) dL_law_618 dL_law_619 ?_
  refine lw_cMi C0 clL_80 dL_law_620 (As := [.int (xs (n + 1)), .int (xs (n + 2))]) (rest := [.int x1]) rfl rfl (fun _ => rfl) hl.1 hcu (mc_order g σ _ _ S2 L2 hM) X1 (fun x2 S2' L2' H2 locs2 hq2 X2 => ?_)
  obtain ⟨e2, hM2⟩ := hq2
  refine lv_icmp_eq (tgt := 1357) hx hb dL_law_623 (by decide) (fun _ => ?_) (fun h => absurd (e1.trans e2.symm) h)
  exact K _ _ _ _ _ _ _ X2 hC1 hM2
set_option maxRecDepth 20000 in
set_option maxHeartbeats 1000000 in
theorem lw_k16 (C0 : lw_At p s m meth c b L xs) (hLs : L ≤ 3072) {n : Nat} {σ : SIG} (hn : n + 6 ≤ L) (X0 : LWd g s ρ1 ρ2 S1 L1 S2 L2 H locs) (hC : CRel S1 L1 σ) (hM : MRel S2 L2 σ) (hl : lv_has als 4 [(0, .ref b), (1, .ref (ρ1 0)), (2, .ref (ρ2 0)), (3, .int (nI n))]) (hcu : cells ≤ 600000 ∧ slots ≤ 7302250)
    (K : ∀ (σ' : SIG) (S1' : SS) (L1' : LL) (S2' : SS) (L2' : LL) (H' : Heap) (locs' : List Loc), LWd g s ρ1 ρ2 S1' L1' S2' L2' H' locs' → CRel S1' L1' σ' → MRel S2' L2' σ' → W p g.1 e room_1 s m #[Value.ref b] below meth c H' locs' cells slots (lw_Z below #[Value.ref b] s) (F0 m 1357 als [])) :
    W p g.1 e room_1 s m #[Value.ref b] below meth c H locs cells slots (lw_Z below #[Value.ref b] s) (F0 m 628 als []) := by
  obtain ⟨hx, hb, hr, hml, hown, hts, hX, hbl, hlocks, hgv⟩ := id C0
  refine lv_aload_n hx hb dL_law_628 rfl (lv_at hl 1 rfl) ?_
  refine lw_arg C0 hLs X0 hl 1 (by omega) (kc := 1) rfl dL_law_629 dL_law_630 dL_law_631 (by decide) dL_law_632 dL_law_633 ?_
  refine lw_cCi C0 clL_81 dL_law_634 (As := [.int (xs (n + 1))]) (rest := []) rfl rfl (fun _ => rfl) hl.1 hcu (cc_look g σ _ S1 L1 hC) X0 (fun x1 S1' L1' H1 locs1 hq1 X1 => ?_)
  obtain ⟨e1, hC1⟩ := hq1
  refine lv_aload_n hx hb dL_law_637 rfl (lv_at hl 2 rfl) ?_
  refine lw_arg C0 hLs X1 hl 1 (by omega) (kc := 1) rfl dL_law_638 dL_law_639 dL_law_640 (by decide) dL_law_641 dL_law_642 ?_
  refine lw_cMi C0 clL_84 dL_law_643 (As := [.int (xs (n + 1))]) (rest := [.int x1]) rfl rfl (fun _ => rfl) hl.1 hcu (mc_look g σ _ S2 L2 hM) X1 (fun x2 S2' L2' H2 locs2 hq2 X2 => ?_)
  obtain ⟨e2, hM2⟩ := hq2
  refine lv_icmp_eq (tgt := 1357) hx hb dL_law_646 (by decide) (fun _ => ?_) (fun h => absurd (e1.trans e2.symm) h)
  exact K _ _ _ _ _ _ _ X2 hC1 hM2
set_option maxRecDepth 20000 in
set_option maxHeartbeats 1000000 in
theorem lw_k17 (C0 : lw_At p s m meth c b L xs) (hLs : L ≤ 3072) {n : Nat} {σ : SIG} (hn : n + 6 ≤ L) (X0 : LWd g s ρ1 ρ2 S1 L1 S2 L2 H locs) (hC : CRel S1 L1 σ) (hM : MRel S2 L2 σ) (hl : lv_has als 4 [(0, .ref b), (1, .ref (ρ1 0)), (2, .ref (ρ2 0)), (3, .int (nI n))]) (hcu : cells ≤ 600000 ∧ slots ≤ 7302250)
    (K : ∀ (σ' : SIG) (S1' : SS) (L1' : LL) (S2' : SS) (L2' : LL) (H' : Heap) (locs' : List Loc), LWd g s ρ1 ρ2 S1' L1' S2' L2' H' locs' → CRel S1' L1' σ' → MRel S2' L2' σ' → W p g.1 e room_1 s m #[Value.ref b] below meth c H' locs' cells slots (lw_Z below #[Value.ref b] s) (F0 m 1357 als [])) :
    W p g.1 e room_1 s m #[Value.ref b] below meth c H locs cells slots (lw_Z below #[Value.ref b] s) (F0 m 651 als []) := by
  obtain ⟨hx, hb, hr, hml, hown, hts, hX, hbl, hlocks, hgv⟩ := id C0
  refine lv_aload_n hx hb dL_law_651 rfl (lv_at hl 1 rfl) ?_
  refine lw_arg C0 hLs X0 hl 1 (by omega) (kc := 1) rfl dL_law_652 dL_law_653 dL_law_654 (by decide) dL_law_655 dL_law_656 ?_
  refine lw_arg C0 hLs X0 hl 2 (by omega) (kc := 2) rfl dL_law_657 dL_law_658 dL_law_659 (by decide) dL_law_660 dL_law_661 ?_
  refine lw_cCi C0 clL_85 dL_law_662 (As := [.int (xs (n + 1)), .int (xs (n + 2))]) (rest := []) rfl rfl (fun _ => rfl) hl.1 hcu (cc_needs g σ _ _ S1 L1 hC) X0 (fun x1 S1' L1' H1 locs1 hq1 X1 => ?_)
  obtain ⟨e1, hC1⟩ := hq1
  refine lv_aload_n hx hb dL_law_665 rfl (lv_at hl 2 rfl) ?_
  refine lw_arg C0 hLs X1 hl 1 (by omega) (kc := 1) rfl dL_law_666 dL_law_667 dL_law_668 (by decide) dL_law_669 dL_law_670 ?_
  refine lw_arg C0 hLs X1 hl 2 (by omega) (kc := 2) rfl dL_law_671 dL_law_672 dL_law_673 (by decide) dL_law_674 dL_law_675 ?_
  refine lw_cMi C0 clL_88 dL_law_676 (As := [.int (xs (n + 1)), .int (xs (n + 2))]) (rest := [.int x1]) rfl rfl (fun _ => rfl) hl.1 hcu (mc_needs g σ _ _ S2 L2 hM) X1 (fun x2 S2' L2' H2 locs2 hq2 X2 => ?_)
  obtain ⟨e2, hM2⟩ := hq2
  refine lv_icmp_eq (tgt := 1357) hx hb dL_law_679 (by decide) (fun _ => ?_) (fun h => absurd (e1.trans e2.symm) h)
  exact K _ _ _ _ _ _ _ X2 hC1 hM2
set_option maxRecDepth 20000 in
set_option maxHeartbeats 1000000 in
theorem lw_k18 (C0 : lw_At p s m meth c b L xs) (hLs : L ≤ 3072) {n : Nat} {σ : SIG} (hn : n + 6 ≤ L) (X0 : LWd g s ρ1 ρ2 S1 L1 S2 L2 H locs) (hC : CRel S1 L1 σ) (hM : MRel S2 L2 σ) (hl : lv_has als 4 [(0, .ref b), (1, .ref (ρ1 0)), (2, .ref (ρ2 0)), (3, .int (nI n))]) (hcu : cells ≤ 600000 ∧ slots ≤ 7302250)
    (K : ∀ (σ' : SIG) (S1' : SS) (L1' : LL) (S2' : SS) (L2' : LL) (H' : Heap) (locs' : List Loc), LWd g s ρ1 ρ2 S1' L1' S2' L2' H' locs' → CRel S1' L1' σ' → MRel S2' L2' σ' → W p g.1 e room_1 s m #[Value.ref b] below meth c H' locs' cells slots (lw_Z below #[Value.ref b] s) (F0 m 1357 als [])) :
    W p g.1 e room_1 s m #[Value.ref b] below meth c H locs cells slots (lw_Z below #[Value.ref b] s) (F0 m 684 als []) := by
  obtain ⟨hx, hb, hr, hml, hown, hts, hX, hbl, hlocks, hgv⟩ := id C0
  refine lv_aload_n hx hb dL_law_684 rfl (lv_at hl 1 rfl) ?_
  refine lw_arg C0 hLs X0 hl 1 (by omega) (kc := 1) rfl dL_law_685 dL_law_686 dL_law_687 (by decide) dL_law_688 dL_law_689 ?_
  refine lw_arg C0 hLs X0 hl 2 (by omega) (kc := 2) rfl dL_law_690 dL_law_691 dL_law_692 (by decide) dL_law_693 dL_law_694 ?_
  refine lw_cCi C0 clL_89 dL_law_695 (As := [.int (xs (n + 1)), .int (xs (n + 2))]) (rest := []) rfl rfl (fun _ => rfl) hl.1 hcu (cc_held g σ _ _ S1 L1 hC) X0 (fun x1 S1' L1' H1 locs1 hq1 X1 => ?_)
  obtain ⟨e1, hC1⟩ := hq1
  refine lv_aload_n hx hb dL_law_698 rfl (lv_at hl 2 rfl) ?_
  refine lw_arg C0 hLs X1 hl 1 (by omega) (kc := 1) rfl dL_law_699 dL_law_700 dL_law_701 (by decide) dL_law_702 dL_law_703 ?_
  refine lw_arg C0 hLs X1 hl 2 (by omega) (kc := 2) rfl dL_law_704 dL_law_705 dL_law_706 (by decide) dL_law_707 dL_law_708 ?_
  refine lw_cMi C0 clL_92 dL_law_709 (As := [.int (xs (n + 1)), .int (xs (n + 2))]) (rest := [.int x1]) rfl rfl (fun _ => rfl) hl.1 hcu (mc_held g σ _ _ S2 L2 hM) X1 (fun x2 S2' L2' H2 locs2 hq2 X2 => ?_)
  obtain ⟨e2, hM2⟩ := hq2
  refine lv_icmp_eq (tgt := 1357) hx hb dL_law_712 (by decide) (fun _ => ?_) (fun h => absurd (e1.trans e2.symm) h)
  exact K _ _ _ _ _ _ _ X2 hC1 hM2
set_option maxRecDepth 20000 in
set_option maxHeartbeats 1000000 in
theorem lw_k19 (C0 : lw_At p s m meth c b L xs) (hLs : L ≤ 3072) {n : Nat} {σ : SIG} (hn : n + 6 ≤ L) (X0 : LWd g s ρ1 ρ2 S1 L1 S2 L2 H locs) (hC : CRel S1 L1 σ) (hM : MRel S2 L2 σ) (hl : lv_has als 4 [(0, .ref b), (1, .ref (ρ1 0)), (2, .ref (ρ2 0)), (3, .int (nI n))]) (hcu : cells ≤ 600000 ∧ slots ≤ 7302250)
    (K : ∀ (σ' : SIG) (S1' : SS) (L1' : LL) (S2' : SS) (L2' : LL) (H' : Heap) (locs' : List Loc), LWd g s ρ1 ρ2 S1' L1' S2' L2' H' locs' → CRel S1' L1' σ' → MRel S2' L2' σ' → W p g.1 e room_1 s m #[Value.ref b] below meth c H' locs' cells slots (lw_Z below #[Value.ref b] s) (F0 m 1357 als [])) :
    W p g.1 e room_1 s m #[Value.ref b] below meth c H locs cells slots (lw_Z below #[Value.ref b] s) (F0 m 717 als []) := by
  obtain ⟨hx, hb, hr, hml, hown, hts, hX, hbl, hlocks, hgv⟩ := id C0
  refine lv_aload_n hx hb dL_law_717 rfl (lv_at hl 1 rfl) ?_
  refine lw_arg C0 hLs X0 hl 1 (by omega) (kc := 1) rfl dL_law_718 dL_law_719 dL_law_720 (by decide) dL_law_721 dL_law_722 ?_
  refine lw_arg C0 hLs X0 hl 2 (by omega) (kc := 2) rfl dL_law_723 dL_law_724 dL_law_725 (by decide) dL_law_726 dL_law_727 ?_
  refine lw_arg C0 hLs X0 hl 3 (by omega) (kc := 3) rfl dL_law_728 dL_law_729 dL_law_730 (by decide) dL_law_731 dL_law_732 ?_
  refine lw_cCi C0 clL_93 dL_law_733 (As := [.int (xs (n + 1)), .int (xs (n + 2)), .int (xs (n + 3))]) (rest := []) rfl rfl (fun _ => rfl) hl.1 hcu (cc_shield g σ _ _ _ S1 L1 hC) X0 (fun x1 S1' L1' H1 locs1 hq1 X1 => ?_)
  obtain ⟨e1, hC1⟩ := hq1
  refine lv_aload_n hx hb dL_law_736 rfl (lv_at hl 2 rfl) ?_
  refine lw_arg C0 hLs X1 hl 1 (by omega) (kc := 1) rfl dL_law_737 dL_law_738 dL_law_739 (by decide) dL_law_740 dL_law_741 ?_
  refine lw_arg C0 hLs X1 hl 2 (by omega) (kc := 2) rfl dL_law_742 dL_law_743 dL_law_744 (by decide) dL_law_745 dL_law_746 ?_
  refine lw_arg C0 hLs X1 hl 3 (by omega) (kc := 3) rfl dL_law_747 dL_law_748 dL_law_749 (by decide) dL_law_750 dL_law_751 ?_
  refine lw_cMi C0 clL_96 dL_law_752 (As := [.int (xs (n + 1)), .int (xs (n + 2)), .int (xs (n + 3))]) (rest := [.int x1]) rfl rfl (fun _ => rfl) hl.1 hcu (mc_shield g σ _ _ _ S2 L2 hM) X1 (fun x2 S2' L2' H2 locs2 hq2 X2 => ?_)
  obtain ⟨e2, hM2⟩ := hq2
  refine lv_icmp_eq (tgt := 1357) hx hb dL_law_755 (by decide) (fun _ => ?_) (fun h => absurd (e1.trans e2.symm) h)
  exact K _ _ _ _ _ _ _ X2 hC1 hM2
set_option maxRecDepth 20000 in
set_option maxHeartbeats 1000000 in
theorem lw_k20 (C0 : lw_At p s m meth c b L xs) (hLs : L ≤ 3072) {n : Nat} {σ : SIG} (hn : n + 6 ≤ L) (X0 : LWd g s ρ1 ρ2 S1 L1 S2 L2 H locs) (hC : CRel S1 L1 σ) (hM : MRel S2 L2 σ) (hl : lv_has als 4 [(0, .ref b), (1, .ref (ρ1 0)), (2, .ref (ρ2 0)), (3, .int (nI n))]) (hcu : cells ≤ 600000 ∧ slots ≤ 7302250)
    (K : ∀ (σ' : SIG) (S1' : SS) (L1' : LL) (S2' : SS) (L2' : LL) (H' : Heap) (locs' : List Loc), LWd g s ρ1 ρ2 S1' L1' S2' L2' H' locs' → CRel S1' L1' σ' → MRel S2' L2' σ' → W p g.1 e room_1 s m #[Value.ref b] below meth c H' locs' cells slots (lw_Z below #[Value.ref b] s) (F0 m 1357 als [])) :
    W p g.1 e room_1 s m #[Value.ref b] below meth c H locs cells slots (lw_Z below #[Value.ref b] s) (F0 m 760 als []) := by
  obtain ⟨hx, hb, hr, hml, hown, hts, hX, hbl, hlocks, hgv⟩ := id C0
  refine lv_aload_n hx hb dL_law_760 rfl (lv_at hl 1 rfl) ?_
  refine lw_arg C0 hLs X0 hl 1 (by omega) (kc := 1) rfl dL_law_761 dL_law_762 dL_law_763 (by decide) dL_law_764 dL_law_765 ?_
  refine lw_arg C0 hLs X0 hl 2 (by omega) (kc := 2) rfl dL_law_766 dL_law_767 dL_law_768 (by decide) dL_law_769 dL_law_770 ?_
  refine lw_arg C0 hLs X0 hl 3 (by omega) (kc := 3) rfl dL_law_771 dL_law_772 dL_law_773 (by decide) dL_law_774 dL_law_775 ?_
  refine lw_cCi C0 clL_97 dL_law_776 (As := [.int (xs (n + 1)), .int (xs (n + 2)), .int (xs (n + 3))]) (rest := []) rfl rfl (fun _ => rfl) hl.1 hcu (cc_see g σ _ _ _ S1 L1 hC) X0 (fun x1 S1' L1' H1 locs1 hq1 X1 => ?_)
  obtain ⟨e1, hC1⟩ := hq1
  refine lv_aload_n hx hb dL_law_779 rfl (lv_at hl 2 rfl) ?_
  refine lw_arg C0 hLs X1 hl 1 (by omega) (kc := 1) rfl dL_law_780 dL_law_781 dL_law_782 (by decide) dL_law_783 dL_law_784 ?_
  refine lw_arg C0 hLs X1 hl 2 (by omega) (kc := 2) rfl dL_law_785 dL_law_786 dL_law_787 (by decide) dL_law_788 dL_law_789 ?_
  refine lw_arg C0 hLs X1 hl 3 (by omega) (kc := 3) rfl dL_law_790 dL_law_791 dL_law_792 (by decide) dL_law_793 dL_law_794 ?_
  refine lw_cMi C0 clL_100 dL_law_795 (As := [.int (xs (n + 1)), .int (xs (n + 2)), .int (xs (n + 3))]) (rest := [.int x1]) rfl rfl (fun _ => rfl) hl.1 hcu (mc_see g σ _ _ _ S2 L2 hM hC1.1) X1 (fun x2 S2' L2' H2 locs2 hq2 X2 => ?_)
  obtain ⟨e2, hM2⟩ := hq2
  refine lv_icmp_eq (tgt := 1357) hx hb dL_law_798 (by decide) (fun _ => ?_) (fun h => absurd (e1.trans e2.symm) h)
  exact K _ _ _ _ _ _ _ X2 hC1 hM2
set_option maxRecDepth 20000 in
set_option maxHeartbeats 1000000 in
theorem lw_k21 (C0 : lw_At p s m meth c b L xs) (hLs : L ≤ 3072) {n : Nat} {σ : SIG} (hn : n + 6 ≤ L) (X0 : LWd g s ρ1 ρ2 S1 L1 S2 L2 H locs) (hC : CRel S1 L1 σ) (hM : MRel S2 L2 σ) (hl : lv_has als 4 [(0, .ref b), (1, .ref (ρ1 0)), (2, .ref (ρ2 0)), (3, .int (nI n))]) (hcu : cells ≤ 600000 ∧ slots ≤ 7302250)
    (K : ∀ (σ' : SIG) (S1' : SS) (L1' : LL) (S2' : SS) (L2' : LL) (H' : Heap) (locs' : List Loc), LWd g s ρ1 ρ2 S1' L1' S2' L2' H' locs' → CRel S1' L1' σ' → MRel S2' L2' σ' → W p g.1 e room_1 s m #[Value.ref b] below meth c H' locs' cells slots (lw_Z below #[Value.ref b] s) (F0 m 1357 als [])) :
    W p g.1 e room_1 s m #[Value.ref b] below meth c H locs cells slots (lw_Z below #[Value.ref b] s) (F0 m 803 als []) := by
  obtain ⟨hx, hb, hr, hml, hown, hts, hX, hbl, hlocks, hgv⟩ := id C0
  refine lv_aload_n hx hb dL_law_803 rfl (lv_at hl 1 rfl) ?_
  refine lw_cCi C0 clL_101 dL_law_804 (As := []) (rest := []) rfl rfl (fun _ => rfl) hl.1 hcu (cc_since g σ  S1 L1 hC) X0 (fun x1 S1' L1' H1 locs1 hq1 X1 => ?_)
  obtain ⟨e1, hC1⟩ := hq1
  refine lv_aload_n hx hb dL_law_807 rfl (lv_at hl 2 rfl) ?_
  refine lw_cMi C0 clL_104 dL_law_808 (As := []) (rest := [.int x1]) rfl rfl (fun _ => rfl) hl.1 hcu (mc_since g σ  S2 L2 hM) X1 (fun x2 S2' L2' H2 locs2 hq2 X2 => ?_)
  obtain ⟨e2, hM2⟩ := hq2
  refine lv_icmp_eq (tgt := 1357) hx hb dL_law_811 (by decide) (fun _ => ?_) (fun h => absurd (e1.trans e2.symm) h)
  exact K _ _ _ _ _ _ _ X2 hC1 hM2
set_option maxRecDepth 20000 in
set_option maxHeartbeats 1000000 in
theorem lw_k22 (C0 : lw_At p s m meth c b L xs) (hLs : L ≤ 3072) {n : Nat} {σ : SIG} (hn : n + 6 ≤ L) (X0 : LWd g s ρ1 ρ2 S1 L1 S2 L2 H locs) (hC : CRel S1 L1 σ) (hM : MRel S2 L2 σ) (hl : lv_has als 4 [(0, .ref b), (1, .ref (ρ1 0)), (2, .ref (ρ2 0)), (3, .int (nI n))]) (hcu : cells ≤ 600000 ∧ slots ≤ 7302250)
    (K : ∀ (σ' : SIG) (S1' : SS) (L1' : LL) (S2' : SS) (L2' : LL) (H' : Heap) (locs' : List Loc), LWd g s ρ1 ρ2 S1' L1' S2' L2' H' locs' → CRel S1' L1' σ' → MRel S2' L2' σ' → W p g.1 e room_1 s m #[Value.ref b] below meth c H' locs' cells slots (lw_Z below #[Value.ref b] s) (F0 m 1357 als [])) :
    W p g.1 e room_1 s m #[Value.ref b] below meth c H locs cells slots (lw_Z below #[Value.ref b] s) (F0 m 816 als []) := by
  obtain ⟨hx, hb, hr, hml, hown, hts, hX, hbl, hlocks, hgv⟩ := id C0
  refine lv_aload_n hx hb dL_law_816 rfl (lv_at hl 1 rfl) ?_
  refine lw_arg C0 hLs X0 hl 1 (by omega) (kc := 1) rfl dL_law_817 dL_law_818 dL_law_819 (by decide) dL_law_820 dL_law_821 ?_
  refine lw_arg C0 hLs X0 hl 2 (by omega) (kc := 2) rfl dL_law_822 dL_law_823 dL_law_824 (by decide) dL_law_825 dL_law_826 ?_
  refine lw_cCi C0 clL_105 dL_law_827 (As := [.int (xs (n + 1)), .int (xs (n + 2))]) (rest := []) rfl rfl (fun _ => rfl) hl.1 hcu (cc_who g σ _ _ S1 L1 hC) X0 (fun x1 S1' L1' H1 locs1 hq1 X1 => ?_)
  obtain ⟨e1, hC1⟩ := hq1
  refine lv_aload_n hx hb dL_law_830 rfl (lv_at hl 2 rfl) ?_
  refine lw_arg C0 hLs X1 hl 1 (by omega) (kc := 1) rfl dL_law_831 dL_law_832 dL_law_833 (by decide) dL_law_834 dL_law_835 ?_
  refine lw_arg C0 hLs X1 hl 2 (by omega) (kc := 2) rfl dL_law_836 dL_law_837 dL_law_838 (by decide) dL_law_839 dL_law_840 ?_
  refine lw_cMi C0 clL_108 dL_law_841 (As := [.int (xs (n + 1)), .int (xs (n + 2))]) (rest := [.int x1]) rfl rfl (fun _ => rfl) hl.1 hcu (mc_who g σ _ _ S2 L2 hM) X1 (fun x2 S2' L2' H2 locs2 hq2 X2 => ?_)
  obtain ⟨e2, hM2⟩ := hq2
  refine lv_icmp_eq (tgt := 1357) hx hb dL_law_844 (by decide) (fun _ => ?_) (fun h => absurd (e1.trans e2.symm) h)
  exact K _ _ _ _ _ _ _ X2 hC1 hM2
set_option maxRecDepth 20000 in
set_option maxHeartbeats 1000000 in
theorem lw_k23 (C0 : lw_At p s m meth c b L xs) (hLs : L ≤ 3072) {n : Nat} {σ : SIG} (hn : n + 6 ≤ L) (X0 : LWd g s ρ1 ρ2 S1 L1 S2 L2 H locs) (hC : CRel S1 L1 σ) (hM : MRel S2 L2 σ) (hl : lv_has als 4 [(0, .ref b), (1, .ref (ρ1 0)), (2, .ref (ρ2 0)), (3, .int (nI n))]) (hcu : cells ≤ 600000 ∧ slots ≤ 7302250)
    (K : ∀ (σ' : SIG) (S1' : SS) (L1' : LL) (S2' : SS) (L2' : LL) (H' : Heap) (locs' : List Loc), LWd g s ρ1 ρ2 S1' L1' S2' L2' H' locs' → CRel S1' L1' σ' → MRel S2' L2' σ' → W p g.1 e room_1 s m #[Value.ref b] below meth c H' locs' cells slots (lw_Z below #[Value.ref b] s) (F0 m 1357 als [])) :
    W p g.1 e room_1 s m #[Value.ref b] below meth c H locs cells slots (lw_Z below #[Value.ref b] s) (F0 m 849 als []) := by
  obtain ⟨hx, hb, hr, hml, hown, hts, hX, hbl, hlocks, hgv⟩ := id C0
  refine lv_aload_n hx hb dL_law_849 rfl (lv_at hl 1 rfl) ?_
  refine lw_arg C0 hLs X0 hl 1 (by omega) (kc := 1) rfl dL_law_850 dL_law_851 dL_law_852 (by decide) dL_law_853 dL_law_854 ?_
  refine lw_arg C0 hLs X0 hl 2 (by omega) (kc := 2) rfl dL_law_855 dL_law_856 dL_law_857 (by decide) dL_law_858 dL_law_859 ?_
  refine lw_cCl C0 clL_109 dL_law_860 (As := [.int (xs (n + 1)), .int (xs (n + 2))]) (rest := []) rfl rfl (fun _ => rfl) hl.1 hcu (cc_odds g σ _ _ S1 L1 hC) X0 (fun x1 S1' L1' H1 locs1 hq1 X1 => ?_)
  obtain ⟨e1, hC1⟩ := hq1
  refine lv_aload_n hx hb dL_law_863 rfl (lv_at hl 2 rfl) ?_
  refine lw_arg C0 hLs X1 hl 1 (by omega) (kc := 1) rfl dL_law_864 dL_law_865 dL_law_866 (by decide) dL_law_867 dL_law_868 ?_
  refine lw_arg C0 hLs X1 hl 2 (by omega) (kc := 2) rfl dL_law_869 dL_law_870 dL_law_871 (by decide) dL_law_872 dL_law_873 ?_
  refine lw_cMl C0 clL_113 dL_law_874 (As := [.int (xs (n + 1)), .int (xs (n + 2))]) (rest := [.long x1]) rfl rfl (fun _ => rfl) hl.1 hcu (mc_odds g σ _ _ S2 L2 hM) X1 (fun x2 S2' L2' H2 locs2 hq2 X2 => ?_)
  obtain ⟨e2, hM2⟩ := hq2
  refine W.lcmp hx hb dL_law_877 ?_
  refine lv_if_eq (tgt := 1357) hx hb dL_law_878 (by decide) (fun _ => ?_) (fun h => absurd ((lg_cmp_eq x1 x2).mpr (e1.trans e2.symm)) h)
  exact K _ _ _ _ _ _ _ X2 hC1 hM2
set_option maxRecDepth 20000 in
set_option maxHeartbeats 1000000 in
theorem lw_k24 (C0 : lw_At p s m meth c b L xs) (hLs : L ≤ 3072) {n : Nat} {σ : SIG} (hn : n + 6 ≤ L) (X0 : LWd g s ρ1 ρ2 S1 L1 S2 L2 H locs) (hC : CRel S1 L1 σ) (hM : MRel S2 L2 σ) (hl : lv_has als 4 [(0, .ref b), (1, .ref (ρ1 0)), (2, .ref (ρ2 0)), (3, .int (nI n))]) (hcu : cells ≤ 600000 ∧ slots ≤ 7302250)
    (K : ∀ (σ' : SIG) (S1' : SS) (L1' : LL) (S2' : SS) (L2' : LL) (H' : Heap) (locs' : List Loc), LWd g s ρ1 ρ2 S1' L1' S2' L2' H' locs' → CRel S1' L1' σ' → MRel S2' L2' σ' → W p g.1 e room_1 s m #[Value.ref b] below meth c H' locs' cells slots (lw_Z below #[Value.ref b] s) (F0 m 1357 als [])) :
    W p g.1 e room_1 s m #[Value.ref b] below meth c H locs cells slots (lw_Z below #[Value.ref b] s) (F0 m 883 als []) := by
  obtain ⟨hx, hb, hr, hml, hown, hts, hX, hbl, hlocks, hgv⟩ := id C0
  refine lv_aload_n hx hb dL_law_883 rfl (lv_at hl 1 rfl) ?_
  refine lw_arg C0 hLs X0 hl 1 (by omega) (kc := 1) rfl dL_law_884 dL_law_885 dL_law_886 (by decide) dL_law_887 dL_law_888 ?_
  refine lw_arg C0 hLs X0 hl 2 (by omega) (kc := 2) rfl dL_law_889 dL_law_890 dL_law_891 (by decide) dL_law_892 dL_law_893 ?_
  refine lw_cCl C0 clL_114 dL_law_894 (As := [.int (xs (n + 1)), .int (xs (n + 2))]) (rest := []) rfl rfl (fun _ => rfl) hl.1 hcu (cc_mean g σ _ _ S1 L1 hC) X0 (fun x1 S1' L1' H1 locs1 hq1 X1 => ?_)
  obtain ⟨e1, hC1⟩ := hq1
  refine lv_aload_n hx hb dL_law_897 rfl (lv_at hl 2 rfl) ?_
  refine lw_arg C0 hLs X1 hl 1 (by omega) (kc := 1) rfl dL_law_898 dL_law_899 dL_law_900 (by decide) dL_law_901 dL_law_902 ?_
  refine lw_arg C0 hLs X1 hl 2 (by omega) (kc := 2) rfl dL_law_903 dL_law_904 dL_law_905 (by decide) dL_law_906 dL_law_907 ?_
  refine lw_cMl C0 clL_117 dL_law_908 (As := [.int (xs (n + 1)), .int (xs (n + 2))]) (rest := [.long x1]) rfl rfl (fun _ => rfl) hl.1 hcu (mc_mean g σ _ _ S2 L2 hM) X1 (fun x2 S2' L2' H2 locs2 hq2 X2 => ?_)
  obtain ⟨e2, hM2⟩ := hq2
  refine W.lcmp hx hb dL_law_911 ?_
  refine lv_if_eq (tgt := 1357) hx hb dL_law_912 (by decide) (fun _ => ?_) (fun h => absurd ((lg_cmp_eq x1 x2).mpr (e1.trans e2.symm)) h)
  exact K _ _ _ _ _ _ _ X2 hC1 hM2
set_option maxRecDepth 20000 in
set_option maxHeartbeats 1000000 in
theorem lw_k25 (C0 : lw_At p s m meth c b L xs) (hLs : L ≤ 3072) {n : Nat} {σ : SIG} (hn : n + 6 ≤ L) (X0 : LWd g s ρ1 ρ2 S1 L1 S2 L2 H locs) (hC : CRel S1 L1 σ) (hM : MRel S2 L2 σ) (hl : lv_has als 4 [(0, .ref b), (1, .ref (ρ1 0)), (2, .ref (ρ2 0)), (3, .int (nI n))]) (hcu : cells ≤ 600000 ∧ slots ≤ 7302250)
    (K : ∀ (σ' : SIG) (S1' : SS) (L1' : LL) (S2' : SS) (L2' : LL) (H' : Heap) (locs' : List Loc), LWd g s ρ1 ρ2 S1' L1' S2' L2' H' locs' → CRel S1' L1' σ' → MRel S2' L2' σ' → W p g.1 e room_1 s m #[Value.ref b] below meth c H' locs' cells slots (lw_Z below #[Value.ref b] s) (F0 m 1357 als [])) :
    W p g.1 e room_1 s m #[Value.ref b] below meth c H locs cells slots (lw_Z below #[Value.ref b] s) (F0 m 917 als []) := by
  obtain ⟨hx, hb, hr, hml, hown, hts, hX, hbl, hlocks, hgv⟩ := id C0
  refine lv_aload_n hx hb dL_law_917 rfl (lv_at hl 1 rfl) ?_
  refine lw_arg C0 hLs X0 hl 1 (by omega) (kc := 1) rfl dL_law_918 dL_law_919 dL_law_920 (by decide) dL_law_921 dL_law_922 ?_
  refine lw_arg C0 hLs X0 hl 2 (by omega) (kc := 2) rfl dL_law_923 dL_law_924 dL_law_925 (by decide) dL_law_926 dL_law_927 ?_
  refine lw_cCi C0 clL_118 dL_law_928 (As := [.int (xs (n + 1)), .int (xs (n + 2))]) (rest := []) rfl rfl (fun _ => rfl) hl.1 hcu (cc_book g σ _ _ S1 L1 hC) X0 (fun x1 S1' L1' H1 locs1 hq1 X1 => ?_)
  obtain ⟨e1, hC1⟩ := hq1
  refine lv_aload_n hx hb dL_law_931 rfl (lv_at hl 2 rfl) ?_
  refine lw_arg C0 hLs X1 hl 1 (by omega) (kc := 1) rfl dL_law_932 dL_law_933 dL_law_934 (by decide) dL_law_935 dL_law_936 ?_
  refine lw_arg C0 hLs X1 hl 2 (by omega) (kc := 2) rfl dL_law_937 dL_law_938 dL_law_939 (by decide) dL_law_940 dL_law_941 ?_
  refine lw_cMi C0 clL_121 dL_law_942 (As := [.int (xs (n + 1)), .int (xs (n + 2))]) (rest := [.int x1]) rfl rfl (fun _ => rfl) hl.1 hcu (mc_book g σ _ _ S2 L2 hM hC1.1) X1 (fun x2 S2' L2' H2 locs2 hq2 X2 => ?_)
  obtain ⟨e2, hM2⟩ := hq2
  refine lv_icmp_eq (tgt := 1357) hx hb dL_law_945 (by decide) (fun _ => ?_) (fun h => absurd (e1.trans e2.symm) h)
  exact K _ _ _ _ _ _ _ X2 hC1 hM2
set_option maxRecDepth 20000 in
set_option maxHeartbeats 1000000 in
theorem lw_k26 (C0 : lw_At p s m meth c b L xs) (hLs : L ≤ 3072) {n : Nat} {σ : SIG} (hn : n + 6 ≤ L) (X0 : LWd g s ρ1 ρ2 S1 L1 S2 L2 H locs) (hC : CRel S1 L1 σ) (hM : MRel S2 L2 σ) (hl : lv_has als 4 [(0, .ref b), (1, .ref (ρ1 0)), (2, .ref (ρ2 0)), (3, .int (nI n))]) (hcu : cells ≤ 600000 ∧ slots ≤ 7302250)
    (K : ∀ (σ' : SIG) (S1' : SS) (L1' : LL) (S2' : SS) (L2' : LL) (H' : Heap) (locs' : List Loc), LWd g s ρ1 ρ2 S1' L1' S2' L2' H' locs' → CRel S1' L1' σ' → MRel S2' L2' σ' → W p g.1 e room_1 s m #[Value.ref b] below meth c H' locs' cells slots (lw_Z below #[Value.ref b] s) (F0 m 1357 als [])) :
    W p g.1 e room_1 s m #[Value.ref b] below meth c H locs cells slots (lw_Z below #[Value.ref b] s) (F0 m 950 als []) := by
  obtain ⟨hx, hb, hr, hml, hown, hts, hX, hbl, hlocks, hgv⟩ := id C0
  refine lv_aload_n hx hb dL_law_950 rfl (lv_at hl 1 rfl) ?_
  refine lw_cCi C0 clL_122 dL_law_951 (As := []) (rest := []) rfl rfl (fun _ => rfl) hl.1 hcu (cc_looked g σ  S1 L1 hC) X0 (fun x1 S1' L1' H1 locs1 hq1 X1 => ?_)
  obtain ⟨e1, hC1⟩ := hq1
  refine lv_aload_n hx hb dL_law_954 rfl (lv_at hl 2 rfl) ?_
  refine lw_cMi C0 clL_125 dL_law_955 (As := []) (rest := [.int x1]) rfl rfl (fun _ => rfl) hl.1 hcu (mc_looked g σ  S2 L2 hM) X1 (fun x2 S2' L2' H2 locs2 hq2 X2 => ?_)
  obtain ⟨e2, hM2⟩ := hq2
  refine lv_icmp_eq (tgt := 1357) hx hb dL_law_958 (by decide) (fun _ => ?_) (fun h => absurd (e1.trans e2.symm) h)
  exact K _ _ _ _ _ _ _ X2 hC1 hM2
set_option maxRecDepth 20000 in
set_option maxHeartbeats 1000000 in
theorem lw_k27 (C0 : lw_At p s m meth c b L xs) (hLs : L ≤ 3072) {n : Nat} {σ : SIG} (hn : n + 6 ≤ L) (X0 : LWd g s ρ1 ρ2 S1 L1 S2 L2 H locs) (hC : CRel S1 L1 σ) (hM : MRel S2 L2 σ) (hl : lv_has als 4 [(0, .ref b), (1, .ref (ρ1 0)), (2, .ref (ρ2 0)), (3, .int (nI n))]) (hcu : cells ≤ 600000 ∧ slots ≤ 7302250)
    (K : ∀ (σ' : SIG) (S1' : SS) (L1' : LL) (S2' : SS) (L2' : LL) (H' : Heap) (locs' : List Loc), LWd g s ρ1 ρ2 S1' L1' S2' L2' H' locs' → CRel S1' L1' σ' → MRel S2' L2' σ' → W p g.1 e room_1 s m #[Value.ref b] below meth c H' locs' cells slots (lw_Z below #[Value.ref b] s) (F0 m 1357 als [])) :
    W p g.1 e room_1 s m #[Value.ref b] below meth c H locs cells slots (lw_Z below #[Value.ref b] s) (F0 m 963 als []) := by
  obtain ⟨hx, hb, hr, hml, hown, hts, hX, hbl, hlocks, hgv⟩ := id C0
  refine lv_aload_n hx hb dL_law_963 rfl (lv_at hl 1 rfl) ?_
  refine lw_arg C0 hLs X0 hl 1 (by omega) (kc := 1) rfl dL_law_964 dL_law_965 dL_law_966 (by decide) dL_law_967 dL_law_968 ?_
  refine lw_arg C0 hLs X0 hl 2 (by omega) (kc := 2) rfl dL_law_969 dL_law_970 dL_law_971 (by decide) dL_law_972 dL_law_973 ?_
  refine lw_cCi C0 clL_126 dL_law_974 (As := [.int (xs (n + 1)), .int (xs (n + 2))]) (rest := []) rfl rfl (fun _ => rfl) hl.1 hcu (cc_judge g σ _ _ S1 L1 hC) X0 (fun x1 S1' L1' H1 locs1 hq1 X1 => ?_)
  obtain ⟨e1, hC1⟩ := hq1
  refine lv_aload_n hx hb dL_law_977 rfl (lv_at hl 2 rfl) ?_
  refine lw_arg C0 hLs X1 hl 1 (by omega) (kc := 1) rfl dL_law_978 dL_law_979 dL_law_980 (by decide) dL_law_981 dL_law_982 ?_
  refine lw_arg C0 hLs X1 hl 2 (by omega) (kc := 2) rfl dL_law_983 dL_law_984 dL_law_985 (by decide) dL_law_986 dL_law_987 ?_
  refine lw_cMi C0 clL_129 dL_law_988 (As := [.int (xs (n + 1)), .int (xs (n + 2))]) (rest := [.int x1]) rfl rfl (fun _ => rfl) hl.1 hcu (mc_judge g σ _ _ S2 L2 hM) X1 (fun x2 S2' L2' H2 locs2 hq2 X2 => ?_)
  obtain ⟨e2, hM2⟩ := hq2
  refine lv_icmp_eq (tgt := 1357) hx hb dL_law_991 (by decide) (fun _ => ?_) (fun h => absurd (e1.trans e2.symm) h)
  exact K _ _ _ _ _ _ _ X2 hC1 hM2
set_option maxRecDepth 20000 in
set_option maxHeartbeats 1000000 in
theorem lw_k28 (C0 : lw_At p s m meth c b L xs) (hLs : L ≤ 3072) {n : Nat} {σ : SIG} (hn : n + 6 ≤ L) (X0 : LWd g s ρ1 ρ2 S1 L1 S2 L2 H locs) (hC : CRel S1 L1 σ) (hM : MRel S2 L2 σ) (hl : lv_has als 4 [(0, .ref b), (1, .ref (ρ1 0)), (2, .ref (ρ2 0)), (3, .int (nI n))]) (hcu : cells ≤ 600000 ∧ slots ≤ 7302250)
    (K : ∀ (σ' : SIG) (S1' : SS) (L1' : LL) (S2' : SS) (L2' : LL) (H' : Heap) (locs' : List Loc), LWd g s ρ1 ρ2 S1' L1' S2' L2' H' locs' → CRel S1' L1' σ' → MRel S2' L2' σ' → W p g.1 e room_1 s m #[Value.ref b] below meth c H' locs' cells slots (lw_Z below #[Value.ref b] s) (F0 m 1357 als [])) :
    W p g.1 e room_1 s m #[Value.ref b] below meth c H locs cells slots (lw_Z below #[Value.ref b] s) (F0 m 996 als []) := by
  obtain ⟨hx, hb, hr, hml, hown, hts, hX, hbl, hlocks, hgv⟩ := id C0
  refine lv_aload_n hx hb dL_law_996 rfl (lv_at hl 1 rfl) ?_
  refine lw_cCi C0 clL_130 dL_law_997 (As := []) (rest := []) rfl rfl (fun _ => rfl) hl.1 hcu (cc_image g σ  S1 L1 hC) X0 (fun x1 S1' L1' H1 locs1 hq1 X1 => ?_)
  obtain ⟨e1, hC1⟩ := hq1
  refine lv_aload_n hx hb dL_law_1000 rfl (lv_at hl 2 rfl) ?_
  refine lw_cMi C0 clL_133 dL_law_1001 (As := []) (rest := [.int x1]) rfl rfl (fun _ => rfl) hl.1 hcu (mc_image g σ  S2 L2 hM hC1.1) X1 (fun x2 S2' L2' H2 locs2 hq2 X2 => ?_)
  obtain ⟨e2, hM2⟩ := hq2
  refine lv_icmp_eq (tgt := 1357) hx hb dL_law_1004 (by decide) (fun _ => ?_) (fun h => absurd (e1.trans e2.symm) h)
  exact K _ _ _ _ _ _ _ X2 hC1 hM2
set_option maxRecDepth 20000 in
set_option maxHeartbeats 1000000 in
theorem lw_k29 (C0 : lw_At p s m meth c b L xs) (hLs : L ≤ 3072) {n : Nat} {σ : SIG} (hn : n + 6 ≤ L) (X0 : LWd g s ρ1 ρ2 S1 L1 S2 L2 H locs) (hC : CRel S1 L1 σ) (hM : MRel S2 L2 σ) (hl : lv_has als 4 [(0, .ref b), (1, .ref (ρ1 0)), (2, .ref (ρ2 0)), (3, .int (nI n))]) (hcu : cells ≤ 600000 ∧ slots ≤ 7302250)
    (K : ∀ (σ' : SIG) (S1' : SS) (L1' : LL) (S2' : SS) (L2' : LL) (H' : Heap) (locs' : List Loc), LWd g s ρ1 ρ2 S1' L1' S2' L2' H' locs' → CRel S1' L1' σ' → MRel S2' L2' σ' → W p g.1 e room_1 s m #[Value.ref b] below meth c H' locs' cells slots (lw_Z below #[Value.ref b] s) (F0 m 1357 als [])) :
    W p g.1 e room_1 s m #[Value.ref b] below meth c H locs cells slots (lw_Z below #[Value.ref b] s) (F0 m 1009 als []) := by
  obtain ⟨hx, hb, hr, hml, hown, hts, hX, hbl, hlocks, hgv⟩ := id C0
  refine lv_aload_n hx hb dL_law_1009 rfl (lv_at hl 1 rfl) ?_
  refine lw_cCi C0 clL_134 dL_law_1010 (As := []) (rest := []) rfl rfl (fun _ => rfl) hl.1 hcu (cc_undo g σ  S1 L1 hC) X0 (fun x1 S1' L1' H1 locs1 hq1 X1 => ?_)
  obtain ⟨e1, hC1⟩ := hq1
  refine lv_aload_n hx hb dL_law_1013 rfl (lv_at hl 2 rfl) ?_
  refine lw_cMi C0 clL_137 dL_law_1014 (As := []) (rest := [.int x1]) rfl rfl (fun _ => rfl) hl.1 hcu (mc_undo g σ  S2 L2 hM hC1.1) X1 (fun x2 S2' L2' H2 locs2 hq2 X2 => ?_)
  obtain ⟨e2, hM2⟩ := hq2
  refine lv_icmp_eq (tgt := 1357) hx hb dL_law_1017 (by decide) (fun _ => ?_) (fun h => absurd (e1.trans e2.symm) h)
  exact K _ _ _ _ _ _ _ X2 hC1 hM2
set_option maxRecDepth 20000 in
set_option maxHeartbeats 1000000 in
theorem lw_k30 (C0 : lw_At p s m meth c b L xs) (hLs : L ≤ 3072) {n : Nat} {σ : SIG} (hn : n + 6 ≤ L) (X0 : LWd g s ρ1 ρ2 S1 L1 S2 L2 H locs) (hC : CRel S1 L1 σ) (hM : MRel S2 L2 σ) (hl : lv_has als 4 [(0, .ref b), (1, .ref (ρ1 0)), (2, .ref (ρ2 0)), (3, .int (nI n))]) (hcu : cells ≤ 600000 ∧ slots ≤ 7302250)
    (K : ∀ (σ' : SIG) (S1' : SS) (L1' : LL) (S2' : SS) (L2' : LL) (H' : Heap) (locs' : List Loc), LWd g s ρ1 ρ2 S1' L1' S2' L2' H' locs' → CRel S1' L1' σ' → MRel S2' L2' σ' → W p g.1 e room_1 s m #[Value.ref b] below meth c H' locs' cells slots (lw_Z below #[Value.ref b] s) (F0 m 1357 als [])) :
    W p g.1 e room_1 s m #[Value.ref b] below meth c H locs cells slots (lw_Z below #[Value.ref b] s) (F0 m 1022 als []) := by
  obtain ⟨hx, hb, hr, hml, hown, hts, hX, hbl, hlocks, hgv⟩ := id C0
  refine lv_aload_n hx hb dL_law_1022 rfl (lv_at hl 1 rfl) ?_
  refine lw_arg C0 hLs X0 hl 1 (by omega) (kc := 1) rfl dL_law_1023 dL_law_1024 dL_law_1025 (by decide) dL_law_1026 dL_law_1027 ?_
  refine lw_arg C0 hLs X0 hl 2 (by omega) (kc := 2) rfl dL_law_1028 dL_law_1029 dL_law_1030 (by decide) dL_law_1031 dL_law_1032 ?_
  refine lw_arg C0 hLs X0 hl 3 (by omega) (kc := 3) rfl dL_law_1033 dL_law_1034 dL_law_1035 (by decide) dL_law_1036 dL_law_1037 ?_
  refine lw_cCi C0 clL_138 dL_law_1038 (As := [.int (xs (n + 1)), .int (xs (n + 2)), .int (xs (n + 3))]) (rest := []) rfl rfl (fun _ => rfl) hl.1 hcu (cc_act g σ _ _ _ S1 L1 hC) X0 (fun x1 S1' L1' H1 locs1 hq1 X1 => ?_)
  obtain ⟨e1, hC1⟩ := hq1
  refine lv_aload_n hx hb dL_law_1041 rfl (lv_at hl 2 rfl) ?_
  refine lw_arg C0 hLs X1 hl 1 (by omega) (kc := 1) rfl dL_law_1042 dL_law_1043 dL_law_1044 (by decide) dL_law_1045 dL_law_1046 ?_
  refine lw_arg C0 hLs X1 hl 2 (by omega) (kc := 2) rfl dL_law_1047 dL_law_1048 dL_law_1049 (by decide) dL_law_1050 dL_law_1051 ?_
  refine lw_arg C0 hLs X1 hl 3 (by omega) (kc := 3) rfl dL_law_1052 dL_law_1053 dL_law_1054 (by decide) dL_law_1055 dL_law_1056 ?_
  refine lw_cMi C0 clL_141 dL_law_1057 (As := [.int (xs (n + 1)), .int (xs (n + 2)), .int (xs (n + 3))]) (rest := [.int x1]) rfl rfl (fun _ => rfl) hl.1 hcu (mc_act g σ _ _ _ S2 L2 hM hC1.1) X1 (fun x2 S2' L2' H2 locs2 hq2 X2 => ?_)
  obtain ⟨e2, hM2⟩ := hq2
  refine lv_icmp_eq (tgt := 1357) hx hb dL_law_1060 (by decide) (fun _ => ?_) (fun h => absurd (e1.trans e2.symm) h)
  exact K _ _ _ _ _ _ _ X2 hC1 hM2
set_option maxRecDepth 20000 in
set_option maxHeartbeats 1000000 in
theorem lw_k31 (C0 : lw_At p s m meth c b L xs) (hLs : L ≤ 3072) {n : Nat} {σ : SIG} (hn : n + 6 ≤ L) (X0 : LWd g s ρ1 ρ2 S1 L1 S2 L2 H locs) (hC : CRel S1 L1 σ) (hM : MRel S2 L2 σ) (hl : lv_has als 4 [(0, .ref b), (1, .ref (ρ1 0)), (2, .ref (ρ2 0)), (3, .int (nI n))]) (hcu : cells ≤ 600000 ∧ slots ≤ 7302250)
    (K : ∀ (σ' : SIG) (S1' : SS) (L1' : LL) (S2' : SS) (L2' : LL) (H' : Heap) (locs' : List Loc), LWd g s ρ1 ρ2 S1' L1' S2' L2' H' locs' → CRel S1' L1' σ' → MRel S2' L2' σ' → W p g.1 e room_1 s m #[Value.ref b] below meth c H' locs' cells slots (lw_Z below #[Value.ref b] s) (F0 m 1357 als [])) :
    W p g.1 e room_1 s m #[Value.ref b] below meth c H locs cells slots (lw_Z below #[Value.ref b] s) (F0 m 1065 als []) := by
  obtain ⟨hx, hb, hr, hml, hown, hts, hX, hbl, hlocks, hgv⟩ := id C0
  refine lv_aload_n hx hb dL_law_1065 rfl (lv_at hl 1 rfl) ?_
  refine lw_arg C0 hLs X0 hl 1 (by omega) (kc := 1) rfl dL_law_1066 dL_law_1067 dL_law_1068 (by decide) dL_law_1069 dL_law_1070 ?_
  refine lw_cCi C0 clL_142 dL_law_1071 (As := [.int (xs (n + 1))]) (rest := []) rfl rfl (fun _ => rfl) hl.1 hcu (cc_trace g σ _ S1 L1 hC) X0 (fun x1 S1' L1' H1 locs1 hq1 X1 => ?_)
  obtain ⟨e1, hC1⟩ := hq1
  refine lv_aload_n hx hb dL_law_1074 rfl (lv_at hl 2 rfl) ?_
  refine lw_arg C0 hLs X1 hl 1 (by omega) (kc := 1) rfl dL_law_1075 dL_law_1076 dL_law_1077 (by decide) dL_law_1078 dL_law_1079 ?_
  refine lw_cMi C0 clL_145 dL_law_1080 (As := [.int (xs (n + 1))]) (rest := [.int x1]) rfl rfl (fun _ => rfl) hl.1 hcu (mc_trace g σ _ S2 L2 hM) X1 (fun x2 S2' L2' H2 locs2 hq2 X2 => ?_)
  obtain ⟨e2, hM2⟩ := hq2
  refine lv_icmp_eq (tgt := 1357) hx hb dL_law_1083 (by decide) (fun _ => ?_) (fun h => absurd (e1.trans e2.symm) h)
  exact K _ _ _ _ _ _ _ X2 hC1 hM2
set_option maxRecDepth 20000 in
set_option maxHeartbeats 1000000 in
theorem lw_k32 (C0 : lw_At p s m meth c b L xs) (hLs : L ≤ 3072) {n : Nat} {σ : SIG} (hn : n + 6 ≤ L) (X0 : LWd g s ρ1 ρ2 S1 L1 S2 L2 H locs) (hC : CRel S1 L1 σ) (hM : MRel S2 L2 σ) (hl : lv_has als 4 [(0, .ref b), (1, .ref (ρ1 0)), (2, .ref (ρ2 0)), (3, .int (nI n))]) (hcu : cells ≤ 600000 ∧ slots ≤ 7302250)
    (K : ∀ (σ' : SIG) (S1' : SS) (L1' : LL) (S2' : SS) (L2' : LL) (H' : Heap) (locs' : List Loc), LWd g s ρ1 ρ2 S1' L1' S2' L2' H' locs' → CRel S1' L1' σ' → MRel S2' L2' σ' → W p g.1 e room_1 s m #[Value.ref b] below meth c H' locs' cells slots (lw_Z below #[Value.ref b] s) (F0 m 1357 als [])) :
    W p g.1 e room_1 s m #[Value.ref b] below meth c H locs cells slots (lw_Z below #[Value.ref b] s) (F0 m 1088 als []) := by
  obtain ⟨hx, hb, hr, hml, hown, hts, hX, hbl, hlocks, hgv⟩ := id C0
  refine lv_aload_n hx hb dL_law_1088 rfl (lv_at hl 1 rfl) ?_
  refine lw_arg C0 hLs X0 hl 1 (by omega) (kc := 1) rfl dL_law_1089 dL_law_1090 dL_law_1091 (by decide) dL_law_1092 dL_law_1093 ?_
  refine lw_arg C0 hLs X0 hl 2 (by omega) (kc := 2) rfl dL_law_1094 dL_law_1095 dL_law_1096 (by decide) dL_law_1097 dL_law_1098 ?_
  refine lw_cCi C0 clL_146 dL_law_1099 (As := [.int (xs (n + 1)), .int (xs (n + 2))]) (rest := []) rfl rfl (fun _ => rfl) hl.1 hcu (cc_taken g σ _ _ S1 L1 hC) X0 (fun x1 S1' L1' H1 locs1 hq1 X1 => ?_)
  obtain ⟨e1, hC1⟩ := hq1
  refine lv_aload_n hx hb dL_law_1102 rfl (lv_at hl 2 rfl) ?_
  refine lw_arg C0 hLs X1 hl 1 (by omega) (kc := 1) rfl dL_law_1103 dL_law_1104 dL_law_1105 (by decide) dL_law_1106 dL_law_1107 ?_
  refine lw_arg C0 hLs X1 hl 2 (by omega) (kc := 2) rfl dL_law_1108 dL_law_1109 dL_law_1110 (by decide) dL_law_1111 dL_law_1112 ?_
  refine lw_cMi C0 clL_149 dL_law_1113 (As := [.int (xs (n + 1)), .int (xs (n + 2))]) (rest := [.int x1]) rfl rfl (fun _ => rfl) hl.1 hcu (mc_taken g σ _ _ S2 L2 hM) X1 (fun x2 S2' L2' H2 locs2 hq2 X2 => ?_)
  obtain ⟨e2, hM2⟩ := hq2
  refine lv_icmp_eq (tgt := 1357) hx hb dL_law_1116 (by decide) (fun _ => ?_) (fun h => absurd (e1.trans e2.symm) h)
  exact K _ _ _ _ _ _ _ X2 hC1 hM2
set_option maxRecDepth 20000 in
set_option maxHeartbeats 1000000 in
theorem lw_k33 (C0 : lw_At p s m meth c b L xs) (hLs : L ≤ 3072) {n : Nat} {σ : SIG} (hn : n + 6 ≤ L) (X0 : LWd g s ρ1 ρ2 S1 L1 S2 L2 H locs) (hC : CRel S1 L1 σ) (hM : MRel S2 L2 σ) (hl : lv_has als 4 [(0, .ref b), (1, .ref (ρ1 0)), (2, .ref (ρ2 0)), (3, .int (nI n))]) (hcu : cells ≤ 600000 ∧ slots ≤ 7302250)
    (K : ∀ (σ' : SIG) (S1' : SS) (L1' : LL) (S2' : SS) (L2' : LL) (H' : Heap) (locs' : List Loc), LWd g s ρ1 ρ2 S1' L1' S2' L2' H' locs' → CRel S1' L1' σ' → MRel S2' L2' σ' → W p g.1 e room_1 s m #[Value.ref b] below meth c H' locs' cells slots (lw_Z below #[Value.ref b] s) (F0 m 1357 als [])) :
    W p g.1 e room_1 s m #[Value.ref b] below meth c H locs cells slots (lw_Z below #[Value.ref b] s) (F0 m 1121 als []) := by
  obtain ⟨hx, hb, hr, hml, hown, hts, hX, hbl, hlocks, hgv⟩ := id C0
  refine lv_aload_n hx hb dL_law_1121 rfl (lv_at hl 1 rfl) ?_
  refine lw_arg C0 hLs X0 hl 1 (by omega) (kc := 1) rfl dL_law_1122 dL_law_1123 dL_law_1124 (by decide) dL_law_1125 dL_law_1126 ?_
  refine lw_cCi C0 clL_150 dL_law_1127 (As := [.int (xs (n + 1))]) (rest := []) rfl rfl (fun _ => rfl) hl.1 hcu (cc_count g σ _ S1 L1 hC) X0 (fun x1 S1' L1' H1 locs1 hq1 X1 => ?_)
  obtain ⟨e1, hC1⟩ := hq1
  refine lv_aload_n hx hb dL_law_1130 rfl (lv_at hl 2 rfl) ?_
  refine lw_arg C0 hLs X1 hl 1 (by omega) (kc := 1) rfl dL_law_1131 dL_law_1132 dL_law_1133 (by decide) dL_law_1134 dL_law_1135 ?_
  refine lw_cMi C0 clL_153 dL_law_1136 (As := [.int (xs (n + 1))]) (rest := [.int x1]) rfl rfl (fun _ => rfl) hl.1 hcu (mc_count g σ _ S2 L2 hM) X1 (fun x2 S2' L2' H2 locs2 hq2 X2 => ?_)
  obtain ⟨e2, hM2⟩ := hq2
  refine lv_icmp_eq (tgt := 1357) hx hb dL_law_1139 (by decide) (fun _ => ?_) (fun h => absurd (e1.trans e2.symm) h)
  exact K _ _ _ _ _ _ _ X2 hC1 hM2
set_option maxRecDepth 20000 in
set_option maxHeartbeats 1000000 in
theorem lw_k34 (C0 : lw_At p s m meth c b L xs) (hLs : L ≤ 3072) {n : Nat} {σ : SIG} (hn : n + 6 ≤ L) (X0 : LWd g s ρ1 ρ2 S1 L1 S2 L2 H locs) (hC : CRel S1 L1 σ) (hM : MRel S2 L2 σ) (hl : lv_has als 4 [(0, .ref b), (1, .ref (ρ1 0)), (2, .ref (ρ2 0)), (3, .int (nI n))]) (hcu : cells ≤ 600000 ∧ slots ≤ 7302250)
    (K : ∀ (σ' : SIG) (S1' : SS) (L1' : LL) (S2' : SS) (L2' : LL) (H' : Heap) (locs' : List Loc), LWd g s ρ1 ρ2 S1' L1' S2' L2' H' locs' → CRel S1' L1' σ' → MRel S2' L2' σ' → W p g.1 e room_1 s m #[Value.ref b] below meth c H' locs' cells slots (lw_Z below #[Value.ref b] s) (F0 m 1357 als [])) :
    W p g.1 e room_1 s m #[Value.ref b] below meth c H locs cells slots (lw_Z below #[Value.ref b] s) (F0 m 1144 als []) := by
  obtain ⟨hx, hb, hr, hml, hown, hts, hX, hbl, hlocks, hgv⟩ := id C0
  refine lv_aload_n hx hb dL_law_1144 rfl (lv_at hl 1 rfl) ?_
  refine lw_arg C0 hLs X0 hl 1 (by omega) (kc := 1) rfl dL_law_1145 dL_law_1146 dL_law_1147 (by decide) dL_law_1148 dL_law_1149 ?_
  refine lw_arg C0 hLs X0 hl 2 (by omega) (kc := 2) rfl dL_law_1150 dL_law_1151 dL_law_1152 (by decide) dL_law_1153 dL_law_1154 ?_
  refine lw_arg C0 hLs X0 hl 3 (by omega) (kc := 3) rfl dL_law_1155 dL_law_1156 dL_law_1157 (by decide) dL_law_1158 dL_law_1159 ?_
  refine lw_cCi C0 clL_154 dL_law_1160 (As := [.int (xs (n + 1)), .int (xs (n + 2)), .int (xs (n + 3))]) (rest := []) rfl rfl (fun _ => rfl) hl.1 hcu (cc_tape g σ _ _ _ S1 L1 hC) X0 (fun x1 S1' L1' H1 locs1 hq1 X1 => ?_)
  obtain ⟨e1, hC1⟩ := hq1
  refine lv_aload_n hx hb dL_law_1163 rfl (lv_at hl 2 rfl) ?_
  refine lw_arg C0 hLs X1 hl 1 (by omega) (kc := 1) rfl dL_law_1164 dL_law_1165 dL_law_1166 (by decide) dL_law_1167 dL_law_1168 ?_
  refine lw_arg C0 hLs X1 hl 2 (by omega) (kc := 2) rfl dL_law_1169 dL_law_1170 dL_law_1171 (by decide) dL_law_1172 dL_law_1173 ?_
  refine lw_arg C0 hLs X1 hl 3 (by omega) (kc := 3) rfl dL_law_1174 dL_law_1175 dL_law_1176 (by decide) dL_law_1177 dL_law_1178 ?_
  refine lw_cMi C0 clL_157 dL_law_1179 (As := [.int (xs (n + 1)), .int (xs (n + 2)), .int (xs (n + 3))]) (rest := [.int x1]) rfl rfl (fun _ => rfl) hl.1 hcu (mc_tape g σ _ _ _ S2 L2 hM hC1.1) X1 (fun x2 S2' L2' H2 locs2 hq2 X2 => ?_)
  obtain ⟨e2, hM2⟩ := hq2
  refine lv_icmp_eq (tgt := 1357) hx hb dL_law_1182 (by decide) (fun _ => ?_) (fun h => absurd (e1.trans e2.symm) h)
  exact K _ _ _ _ _ _ _ X2 hC1 hM2
set_option maxRecDepth 20000 in
set_option maxHeartbeats 1000000 in
theorem lw_k35 (C0 : lw_At p s m meth c b L xs) (hLs : L ≤ 3072) {n : Nat} {σ : SIG} (hn : n + 6 ≤ L) (X0 : LWd g s ρ1 ρ2 S1 L1 S2 L2 H locs) (hC : CRel S1 L1 σ) (hM : MRel S2 L2 σ) (hl : lv_has als 4 [(0, .ref b), (1, .ref (ρ1 0)), (2, .ref (ρ2 0)), (3, .int (nI n))]) (hcu : cells ≤ 600000 ∧ slots ≤ 7302250)
    (K : ∀ (σ' : SIG) (S1' : SS) (L1' : LL) (S2' : SS) (L2' : LL) (H' : Heap) (locs' : List Loc), LWd g s ρ1 ρ2 S1' L1' S2' L2' H' locs' → CRel S1' L1' σ' → MRel S2' L2' σ' → W p g.1 e room_1 s m #[Value.ref b] below meth c H' locs' cells slots (lw_Z below #[Value.ref b] s) (F0 m 1357 als [])) :
    W p g.1 e room_1 s m #[Value.ref b] below meth c H locs cells slots (lw_Z below #[Value.ref b] s) (F0 m 1187 als []) := by
  obtain ⟨hx, hb, hr, hml, hown, hts, hX, hbl, hlocks, hgv⟩ := id C0
  refine lv_aload_n hx hb dL_law_1187 rfl (lv_at hl 1 rfl) ?_
  refine lw_arg C0 hLs X0 hl 1 (by omega) (kc := 1) rfl dL_law_1188 dL_law_1189 dL_law_1190 (by decide) dL_law_1191 dL_law_1192 ?_
  refine lw_arg C0 hLs X0 hl 2 (by omega) (kc := 2) rfl dL_law_1193 dL_law_1194 dL_law_1195 (by decide) dL_law_1196 dL_law_1197 ?_
  refine lw_arg C0 hLs X0 hl 3 (by omega) (kc := 3) rfl dL_law_1198 dL_law_1199 dL_law_1200 (by decide) dL_law_1201 dL_law_1202 ?_
  refine lv_i2l hx hb dL_law_1203 rfl ?_
  refine lv_bipush (v := 32) hx hb dL_law_1204 (by decide) ?_
  refine lv_lshl hx hb dL_law_1206 rfl ?_
  refine lw_arg C0 hLs X0 hl 4 (by omega) (kc := 4) rfl dL_law_1207 dL_law_1208 dL_law_1209 (by decide) dL_law_1210 dL_law_1211 ?_
  refine lv_i2l hx hb dL_law_1212 rfl ?_
  refine lv_ldc2 (v := 4294967295) hx hb (own := RL) hown (TB_tbl hts _ w_1504) dL_law_1213 ?_
  refine lv_land hx hb dL_law_1216 ?_
  refine lv_lor hx hb dL_law_1217 ?_
  refine lw_cCi C0 clL_160 dL_law_1218 (As := [.int (xs (n + 1)), .int (xs (n + 2)), .long ((xs (n + 3)).toInt64 <<< ((32 : Int32).toInt64 &&& 63) ||| (xs (n + 4)).toInt64 &&& 4294967295)]) (rest := []) rfl rfl (fun _ => rfl) hl.1 hcu (cc_item g σ _ _ _ S1 L1 hC) X0 (fun x1 S1' L1' H1 locs1 hq1 X1 => ?_)
  obtain ⟨e1, hC1⟩ := hq1
  refine lv_aload_n hx hb dL_law_1221 rfl (lv_at hl 2 rfl) ?_
  refine lw_arg C0 hLs X1 hl 1 (by omega) (kc := 1) rfl dL_law_1222 dL_law_1223 dL_law_1224 (by decide) dL_law_1225 dL_law_1226 ?_
  refine lw_arg C0 hLs X1 hl 2 (by omega) (kc := 2) rfl dL_law_1227 dL_law_1228 dL_law_1229 (by decide) dL_law_1230 dL_law_1231 ?_
  refine lw_arg C0 hLs X1 hl 3 (by omega) (kc := 3) rfl dL_law_1232 dL_law_1233 dL_law_1234 (by decide) dL_law_1235 dL_law_1236 ?_
  refine lv_i2l hx hb dL_law_1237 rfl ?_
  refine lv_bipush (v := 32) hx hb dL_law_1238 (by decide) ?_
  refine lv_lshl hx hb dL_law_1240 rfl ?_
  refine lw_arg C0 hLs X1 hl 4 (by omega) (kc := 4) rfl dL_law_1241 dL_law_1242 dL_law_1243 (by decide) dL_law_1244 dL_law_1245 ?_
  refine lv_i2l hx hb dL_law_1246 rfl ?_
  refine lv_ldc2 (v := 4294967295) hx hb (own := RL) hown (TB_tbl hts _ w_1504) dL_law_1247 ?_
  refine lv_land hx hb dL_law_1250 ?_
  refine lv_lor hx hb dL_law_1251 ?_
  refine lw_cMi C0 clL_164 dL_law_1252 (As := [.int (xs (n + 1)), .int (xs (n + 2)), .long ((xs (n + 3)).toInt64 <<< ((32 : Int32).toInt64 &&& 63) ||| (xs (n + 4)).toInt64 &&& 4294967295)]) (rest := [.int x1]) rfl rfl (fun _ => rfl) hl.1 hcu (mc_item g σ _ _ _ S2 L2 hM hC1.1) X1 (fun x2 S2' L2' H2 locs2 hq2 X2 => ?_)
  obtain ⟨e2, hM2⟩ := hq2
  refine lv_icmp_eq (tgt := 1357) hx hb dL_law_1255 (by decide) (fun _ => ?_) (fun h => absurd (e1.trans e2.symm) h)
  exact K _ _ _ _ _ _ _ X2 hC1 hM2
set_option maxRecDepth 20000 in
set_option maxHeartbeats 1000000 in
theorem lw_k36 (C0 : lw_At p s m meth c b L xs) (hLs : L ≤ 3072) {n : Nat} {σ : SIG} (hn : n + 6 ≤ L) (X0 : LWd g s ρ1 ρ2 S1 L1 S2 L2 H locs) (hC : CRel S1 L1 σ) (hM : MRel S2 L2 σ) (hl : lv_has als 4 [(0, .ref b), (1, .ref (ρ1 0)), (2, .ref (ρ2 0)), (3, .int (nI n))]) (hcu : cells ≤ 600000 ∧ slots ≤ 7302250)
    (K : ∀ (σ' : SIG) (S1' : SS) (L1' : LL) (S2' : SS) (L2' : LL) (H' : Heap) (locs' : List Loc), LWd g s ρ1 ρ2 S1' L1' S2' L2' H' locs' → CRel S1' L1' σ' → MRel S2' L2' σ' → W p g.1 e room_1 s m #[Value.ref b] below meth c H' locs' cells slots (lw_Z below #[Value.ref b] s) (F0 m 1357 als [])) :
    W p g.1 e room_1 s m #[Value.ref b] below meth c H locs cells slots (lw_Z below #[Value.ref b] s) (F0 m 1260 als []) := by
  obtain ⟨hx, hb, hr, hml, hown, hts, hX, hbl, hlocks, hgv⟩ := id C0
  refine lv_aload_n hx hb dL_law_1260 rfl (lv_at hl 1 rfl) ?_
  refine lw_arg C0 hLs X0 hl 1 (by omega) (kc := 1) rfl dL_law_1261 dL_law_1262 dL_law_1263 (by decide) dL_law_1264 dL_law_1265 ?_
  refine lw_arg C0 hLs X0 hl 2 (by omega) (kc := 2) rfl dL_law_1266 dL_law_1267 dL_law_1268 (by decide) dL_law_1269 dL_law_1270 ?_
  refine lw_cCl C0 clL_165 dL_law_1271 (As := [.int (xs (n + 1)), .int (xs (n + 2))]) (rest := []) rfl rfl (fun _ => rfl) hl.1 hcu (cc_read g σ _ _ S1 L1 hC) X0 (fun x1 S1' L1' H1 locs1 hq1 X1 => ?_)
  obtain ⟨e1, hC1⟩ := hq1
  refine lv_aload_n hx hb dL_law_1274 rfl (lv_at hl 2 rfl) ?_
  refine lw_arg C0 hLs X1 hl 1 (by omega) (kc := 1) rfl dL_law_1275 dL_law_1276 dL_law_1277 (by decide) dL_law_1278 dL_law_1279 ?_
  refine lw_arg C0 hLs X1 hl 2 (by omega) (kc := 2) rfl dL_law_1280 dL_law_1281 dL_law_1282 (by decide) dL_law_1283 dL_law_1284 ?_
  refine lw_cMl C0 clL_168 dL_law_1285 (As := [.int (xs (n + 1)), .int (xs (n + 2))]) (rest := [.long x1]) rfl rfl (fun _ => rfl) hl.1 hcu (mc_read g σ _ _ S2 L2 hM) X1 (fun x2 S2' L2' H2 locs2 hq2 X2 => ?_)
  obtain ⟨e2, hM2⟩ := hq2
  refine W.lcmp hx hb dL_law_1288 ?_
  refine lv_if_eq (tgt := 1357) hx hb dL_law_1289 (by decide) (fun _ => ?_) (fun h => absurd ((lg_cmp_eq x1 x2).mpr (e1.trans e2.symm)) h)
  exact K _ _ _ _ _ _ _ X2 hC1 hM2
set_option maxRecDepth 20000 in
set_option maxHeartbeats 1000000 in
theorem lw_k37 (C0 : lw_At p s m meth c b L xs) (hLs : L ≤ 3072) {n : Nat} {σ : SIG} (hn : n + 6 ≤ L) (X0 : LWd g s ρ1 ρ2 S1 L1 S2 L2 H locs) (hC : CRel S1 L1 σ) (hM : MRel S2 L2 σ) (hl : lv_has als 4 [(0, .ref b), (1, .ref (ρ1 0)), (2, .ref (ρ2 0)), (3, .int (nI n))]) (hcu : cells ≤ 600000 ∧ slots ≤ 7302250)
    (K : ∀ (σ' : SIG) (S1' : SS) (L1' : LL) (S2' : SS) (L2' : LL) (H' : Heap) (locs' : List Loc), LWd g s ρ1 ρ2 S1' L1' S2' L2' H' locs' → CRel S1' L1' σ' → MRel S2' L2' σ' → W p g.1 e room_1 s m #[Value.ref b] below meth c H' locs' cells slots (lw_Z below #[Value.ref b] s) (F0 m 1357 als [])) :
    W p g.1 e room_1 s m #[Value.ref b] below meth c H locs cells slots (lw_Z below #[Value.ref b] s) (F0 m 1294 als []) := by
  obtain ⟨hx, hb, hr, hml, hown, hts, hX, hbl, hlocks, hgv⟩ := id C0
  refine lv_aload_n hx hb dL_law_1294 rfl (lv_at hl 1 rfl) ?_
  refine lw_arg C0 hLs X0 hl 1 (by omega) (kc := 1) rfl dL_law_1295 dL_law_1296 dL_law_1297 (by decide) dL_law_1298 dL_law_1299 ?_
  refine lw_arg C0 hLs X0 hl 2 (by omega) (kc := 2) rfl dL_law_1300 dL_law_1301 dL_law_1302 (by decide) dL_law_1303 dL_law_1304 ?_
  refine lw_arg C0 hLs X0 hl 3 (by omega) (kc := 3) rfl dL_law_1305 dL_law_1306 dL_law_1307 (by decide) dL_law_1308 dL_law_1309 ?_
  refine lw_arg C0 hLs X0 hl 4 (by omega) (kc := 4) rfl dL_law_1310 dL_law_1311 dL_law_1312 (by decide) dL_law_1313 dL_law_1314 ?_
  refine lw_arg C0 hLs X0 hl 5 (by omega) (kc := 5) rfl dL_law_1315 dL_law_1316 dL_law_1317 (by decide) dL_law_1318 dL_law_1319 ?_
  refine lw_cCi C0 clL_169 dL_law_1320 (As := [.int (xs (n + 1)), .int (xs (n + 2)), .int (xs (n + 3)), .int (xs (n + 4)), .int (xs (n + 5))]) (rest := []) rfl rfl (fun _ => rfl) hl.1 hcu (cc_shift g σ _ _ _ _ _ S1 L1 hC) X0 (fun x1 S1' L1' H1 locs1 hq1 X1 => ?_)
  obtain ⟨e1, hC1⟩ := hq1
  refine lv_aload_n hx hb dL_law_1323 rfl (lv_at hl 2 rfl) ?_
  refine lw_arg C0 hLs X1 hl 1 (by omega) (kc := 1) rfl dL_law_1324 dL_law_1325 dL_law_1326 (by decide) dL_law_1327 dL_law_1328 ?_
  refine lw_arg C0 hLs X1 hl 2 (by omega) (kc := 2) rfl dL_law_1329 dL_law_1330 dL_law_1331 (by decide) dL_law_1332 dL_law_1333 ?_
  refine lw_arg C0 hLs X1 hl 3 (by omega) (kc := 3) rfl dL_law_1334 dL_law_1335 dL_law_1336 (by decide) dL_law_1337 dL_law_1338 ?_
  refine lw_arg C0 hLs X1 hl 4 (by omega) (kc := 4) rfl dL_law_1339 dL_law_1340 dL_law_1341 (by decide) dL_law_1342 dL_law_1343 ?_
  refine lw_arg C0 hLs X1 hl 5 (by omega) (kc := 5) rfl dL_law_1344 dL_law_1345 dL_law_1346 (by decide) dL_law_1347 dL_law_1348 ?_
  refine lw_cMi C0 clL_173 dL_law_1349 (As := [.int (xs (n + 1)), .int (xs (n + 2)), .int (xs (n + 3)), .int (xs (n + 4)), .int (xs (n + 5))]) (rest := [.int x1]) rfl rfl (fun _ => rfl) hl.1 hcu (mc_shift g σ _ _ _ _ _ S2 L2 hM hC1.1) X1 (fun x2 S2' L2' H2 locs2 hq2 X2 => ?_)
  obtain ⟨e2, hM2⟩ := hq2
  refine lv_icmp_eq (tgt := 1357) hx hb dL_law_1352 (by decide) (fun _ => ?_) (fun h => absurd (e1.trans e2.symm) h)
  exact K _ _ _ _ _ _ _ X2 hC1 hM2
end LAW
