section LAWC0
variable {E : EE} {n0 : Nat} {p : Program} {l : Launch} {e : Env} {s : State} {m : MethodId} {args : Array Value} {below : List Frame} {meth : Method} {c : Code} {Qf : State → Prop} {k n b L : Nat} {xs : Nat → Int32} {x : Int32} {σ : Mem}
set_option maxHeartbeats 4000000 in
set_option maxRecDepth 100000 in
theorem ca_feed (C : CxW E n0 p s m args meth c RL wsL_law cL_law 4 ret) (hX : va_X b L xs s s.heap) (hbl : b < n0) (hin : ∀ j : Int, 1 ≤ j → j ≤ 4 → vp_in (x + Int32.ofInt j) L) (hk : k ≤ room_1.cells ∧ n ≤ room_1.slots) (h : Inv σ) (kk : ∀ τ : Mem, Inv τ → JW E n0 p l e room_1 s m args below meth c Qf 4 k n 1363 (lvL E b x) [] τ) : JW E n0 p l e room_1 s m args below meth c Qf 4 k n 204 (lvL E b x) [] σ := by
  refine w_aload C 1 dL_law_204 rfl 2 rfl ?_
  refine w_arg C hX hbl dL_law_205 dL_law_206 dL_law_207 dL_law_208 dL_law_209 (hin 1 (by decide) (by decide)) ?_
  refine w_callI (As := [.int (xs (x + Int32.ofInt 1).toNatClampNeg)]) (rest := []) C 0 (c_X5_feed (g_feed h)) (cwV 1 C.2.2.2.2.2.1 gL_law_X5_feed rfl rfl rfl hdX5_feed ⟨Nat.le_of_ble_eq_true rfl, Nat.le_of_ble_eq_true rfl⟩) rfl rfl rfl rfl (Nat.le_of_ble_eq_true rfl) hk dL_law_210 (fun r τ h1 => ?_)
  refine w_aload C 2 dL_law_213 rfl 1 rfl ?_
  refine w_arg C hX hbl dL_law_214 dL_law_215 dL_law_216 dL_law_217 dL_law_218 (hin 1 (by decide) (by decide)) ?_
  refine w_callI (As := [.int (xs (x + Int32.ofInt 1).toNatClampNeg)]) (rest := [.int r]) C 64 (c_X6_feed h1) (cwV 1 C.2.2.2.2.2.1 gL_law_X6_feed rfl rfl rfl hdX6_feed ⟨Nat.le_of_ble_eq_true rfl, Nat.le_of_ble_eq_true rfl⟩) rfl rfl rfl rfl (Nat.le_of_ble_eq_true rfl) hk dL_law_219 (fun r1 τ1 h2 => ?_)
  obtain ⟨e9, hI⟩ := h2
  subst e9
  exact w_icmp_eq C 1363 dL_law_222 (by decide) (fun _ => kk τ1 hI) (fun h9 => absurd rfl h9)
set_option maxHeartbeats 4000000 in
set_option maxRecDepth 100000 in
theorem ca_end (C : CxW E n0 p s m args meth c RL wsL_law cL_law 4 ret) (hX : va_X b L xs s s.heap) (hbl : b < n0) (hin : ∀ j : Int, 1 ≤ j → j ≤ 4 → vp_in (x + Int32.ofInt j) L) (hk : k ≤ room_1.cells ∧ n ≤ room_1.slots) (h : Inv σ) (kk : ∀ τ : Mem, Inv τ → JW E n0 p l e room_1 s m args below meth c Qf 4 k n 1363 (lvL E b x) [] τ) : JW E n0 p l e room_1 s m args below meth c Qf 4 k n 227 (lvL E b x) [] σ := by
  refine w_aload C 1 dL_law_227 rfl 2 rfl ?_
  refine w_arg C hX hbl dL_law_228 dL_law_229 dL_law_230 dL_law_231 dL_law_232 (hin 1 (by decide) (by decide)) ?_
  refine w_callI (As := [.int (xs (x + Int32.ofInt 1).toNatClampNeg)]) (rest := []) C 0 (c_X5_end (g_end h)) (cwV 1 C.2.2.2.2.2.1 gL_law_X5_end rfl rfl rfl hdX5_end ⟨Nat.le_of_ble_eq_true rfl, Nat.le_of_ble_eq_true rfl⟩) rfl rfl rfl rfl (Nat.le_of_ble_eq_true rfl) hk dL_law_233 (fun r τ h1 => ?_)
  refine w_aload C 2 dL_law_236 rfl 1 rfl ?_
  refine w_arg C hX hbl dL_law_237 dL_law_238 dL_law_239 dL_law_240 dL_law_241 (hin 1 (by decide) (by decide)) ?_
  refine w_callI (As := [.int (xs (x + Int32.ofInt 1).toNatClampNeg)]) (rest := [.int r]) C 64 (c_X6_end h1) (cwV 1 C.2.2.2.2.2.1 gL_law_X6_end rfl rfl rfl hdX6_end ⟨Nat.le_of_ble_eq_true rfl, Nat.le_of_ble_eq_true rfl⟩) rfl rfl rfl rfl (Nat.le_of_ble_eq_true rfl) hk dL_law_242 (fun r1 τ1 h2 => ?_)
  obtain ⟨e9, hI⟩ := h2
  subst e9
  exact w_icmp_eq C 1363 dL_law_245 (by decide) (fun _ => kk τ1 hI) (fun h9 => absurd rfl h9)
set_option maxHeartbeats 4000000 in
set_option maxRecDepth 100000 in
theorem ca_text (C : CxW E n0 p s m args meth c RL wsL_law cL_law 4 ret) (hX : va_X b L xs s s.heap) (hbl : b < n0) (hin : ∀ j : Int, 1 ≤ j → j ≤ 4 → vp_in (x + Int32.ofInt j) L) (hk : k ≤ room_1.cells ∧ n ≤ room_1.slots) (h : Inv σ) (kk : ∀ τ : Mem, Inv τ → JW E n0 p l e room_1 s m args below meth c Qf 4 k n 1363 (lvL E b x) [] τ) : JW E n0 p l e room_1 s m args below meth c Qf 4 k n 250 (lvL E b x) [] σ := by
  refine w_aload C 1 dL_law_250 rfl 2 rfl ?_
  refine w_callI (As := []) (rest := []) C 0 (c_X5_text (g_text h)) (cwV 0 C.2.2.2.2.2.1 gL_law_X5_text rfl rfl rfl hdX5_text ⟨Nat.le_of_ble_eq_true rfl, Nat.le_of_ble_eq_true rfl⟩) rfl rfl rfl rfl (Nat.le_of_ble_eq_true rfl) hk dL_law_251 (fun r τ h1 => ?_)
  refine w_aload C 2 dL_law_254 rfl 1 rfl ?_
  refine w_callI (As := []) (rest := [.int r]) C 64 (c_X6_text h1) (cwV 0 C.2.2.2.2.2.1 gL_law_X6_text rfl rfl rfl hdX6_text ⟨Nat.le_of_ble_eq_true rfl, Nat.le_of_ble_eq_true rfl⟩) rfl rfl rfl rfl (Nat.le_of_ble_eq_true rfl) hk dL_law_255 (fun r1 τ1 h2 => ?_)
  obtain ⟨e9, hI⟩ := h2
  subst e9
  exact w_icmp_eq C 1363 dL_law_258 (by decide) (fun _ => kk τ1 hI) (fun h9 => absurd rfl h9)
set_option maxHeartbeats 4000000 in
set_option maxRecDepth 100000 in
theorem ca_fault (C : CxW E n0 p s m args meth c RL wsL_law cL_law 4 ret) (hX : va_X b L xs s s.heap) (hbl : b < n0) (hin : ∀ j : Int, 1 ≤ j → j ≤ 4 → vp_in (x + Int32.ofInt j) L) (hk : k ≤ room_1.cells ∧ n ≤ room_1.slots) (h : Inv σ) (kk : ∀ τ : Mem, Inv τ → JW E n0 p l e room_1 s m args below meth c Qf 4 k n 1363 (lvL E b x) [] τ) : JW E n0 p l e room_1 s m args below meth c Qf 4 k n 263 (lvL E b x) [] σ := by
  refine w_aload C 1 dL_law_263 rfl 2 rfl ?_
  refine w_callI (As := []) (rest := []) C 0 (c_X5_fault (g_fault h)) (cwV 0 C.2.2.2.2.2.1 gL_law_X5_fault rfl rfl rfl hdX5_fault ⟨Nat.le_of_ble_eq_true rfl, Nat.le_of_ble_eq_true rfl⟩) rfl rfl rfl rfl (Nat.le_of_ble_eq_true rfl) hk dL_law_264 (fun r τ h1 => ?_)
  refine w_aload C 2 dL_law_267 rfl 1 rfl ?_
  refine w_callI (As := []) (rest := [.int r]) C 64 (c_X6_fault h1) (cwV 0 C.2.2.2.2.2.1 gL_law_X6_fault rfl rfl rfl hdX6_fault ⟨Nat.le_of_ble_eq_true rfl, Nat.le_of_ble_eq_true rfl⟩) rfl rfl rfl rfl (Nat.le_of_ble_eq_true rfl) hk dL_law_268 (fun r1 τ1 h2 => ?_)
  obtain ⟨e9, hI⟩ := h2
  subst e9
  exact w_icmp_eq C 1363 dL_law_271 (by decide) (fun _ => kk τ1 hI) (fun h9 => absurd rfl h9)
set_option maxHeartbeats 4000000 in
set_option maxRecDepth 100000 in
theorem ca_rule (C : CxW E n0 p s m args meth c RL wsL_law cL_law 4 ret) (hX : va_X b L xs s s.heap) (hbl : b < n0) (hin : ∀ j : Int, 1 ≤ j → j ≤ 4 → vp_in (x + Int32.ofInt j) L) (hk : k ≤ room_1.cells ∧ n ≤ room_1.slots) (h : Inv σ) (kk : ∀ τ : Mem, Inv τ → JW E n0 p l e room_1 s m args below meth c Qf 4 k n 1363 (lvL E b x) [] τ) : JW E n0 p l e room_1 s m args below meth c Qf 4 k n 276 (lvL E b x) [] σ := by
  refine w_aload C 1 dL_law_276 rfl 2 rfl ?_
  refine w_arg C hX hbl dL_law_277 dL_law_278 dL_law_279 dL_law_280 dL_law_281 (hin 1 (by decide) (by decide)) ?_
  refine w_callI (As := [.int (xs (x + Int32.ofInt 1).toNatClampNeg)]) (rest := []) C 0 (c_X5_rule (g_rule h)) (cwV 1 C.2.2.2.2.2.1 gL_law_X5_rule rfl rfl rfl hdX5_rule ⟨Nat.le_of_ble_eq_true rfl, Nat.le_of_ble_eq_true rfl⟩) rfl rfl rfl rfl (Nat.le_of_ble_eq_true rfl) hk dL_law_282 (fun r τ h1 => ?_)
  refine w_aload C 2 dL_law_285 rfl 1 rfl ?_
  refine w_arg C hX hbl dL_law_286 dL_law_287 dL_law_288 dL_law_289 dL_law_290 (hin 1 (by decide) (by decide)) ?_
  refine w_callI (As := [.int (xs (x + Int32.ofInt 1).toNatClampNeg)]) (rest := [.int r]) C 64 (c_X6_rule h1) (cwV 1 C.2.2.2.2.2.1 gL_law_X6_rule rfl rfl rfl hdX6_rule ⟨Nat.le_of_ble_eq_true rfl, Nat.le_of_ble_eq_true rfl⟩) rfl rfl rfl rfl (Nat.le_of_ble_eq_true rfl) hk dL_law_291 (fun r1 τ1 h2 => ?_)
  obtain ⟨e9, hI⟩ := h2
  subst e9
  exact w_icmp_eq C 1363 dL_law_294 (by decide) (fun _ => kk τ1 hI) (fun h9 => absurd rfl h9)
set_option maxHeartbeats 4000000 in
set_option maxRecDepth 100000 in
theorem ca_heir (C : CxW E n0 p s m args meth c RL wsL_law cL_law 4 ret) (hX : va_X b L xs s s.heap) (hbl : b < n0) (hin : ∀ j : Int, 1 ≤ j → j ≤ 4 → vp_in (x + Int32.ofInt j) L) (hk : k ≤ room_1.cells ∧ n ≤ room_1.slots) (h : Inv σ) (kk : ∀ τ : Mem, Inv τ → JW E n0 p l e room_1 s m args below meth c Qf 4 k n 1363 (lvL E b x) [] τ) : JW E n0 p l e room_1 s m args below meth c Qf 4 k n 299 (lvL E b x) [] σ := by
  refine w_aload C 1 dL_law_299 rfl 2 rfl ?_
  refine w_arg C hX hbl dL_law_300 dL_law_301 dL_law_302 dL_law_303 dL_law_304 (hin 1 (by decide) (by decide)) ?_
  refine w_arg C hX hbl dL_law_305 dL_law_306 dL_law_307 dL_law_308 dL_law_309 (hin 2 (by decide) (by decide)) ?_
  refine w_callI (As := [.int (xs (x + Int32.ofInt 1).toNatClampNeg), .int (xs (x + Int32.ofInt 2).toNatClampNeg)]) (rest := []) C 0 (c_X5_heir (g_heir h)) (cwV 2 C.2.2.2.2.2.1 gL_law_X5_heir rfl rfl rfl hdX5_heir ⟨Nat.le_of_ble_eq_true rfl, Nat.le_of_ble_eq_true rfl⟩) rfl rfl rfl rfl (Nat.le_of_ble_eq_true rfl) hk dL_law_310 (fun r τ h1 => ?_)
  refine w_aload C 2 dL_law_313 rfl 1 rfl ?_
  refine w_arg C hX hbl dL_law_314 dL_law_315 dL_law_316 dL_law_317 dL_law_318 (hin 1 (by decide) (by decide)) ?_
  refine w_arg C hX hbl dL_law_319 dL_law_320 dL_law_321 dL_law_322 dL_law_323 (hin 2 (by decide) (by decide)) ?_
  refine w_callI (As := [.int (xs (x + Int32.ofInt 1).toNatClampNeg), .int (xs (x + Int32.ofInt 2).toNatClampNeg)]) (rest := [.int r]) C 64 (c_X6_heir h1) (cwV 2 C.2.2.2.2.2.1 gL_law_X6_heir rfl rfl rfl hdX6_heir ⟨Nat.le_of_ble_eq_true rfl, Nat.le_of_ble_eq_true rfl⟩) rfl rfl rfl rfl (Nat.le_of_ble_eq_true rfl) hk dL_law_324 (fun r1 τ1 h2 => ?_)
  obtain ⟨e9, hI⟩ := h2
  subst e9
  exact w_icmp_eq C 1363 dL_law_327 (by decide) (fun _ => kk τ1 hI) (fun h9 => absurd rfl h9)
set_option maxHeartbeats 4000000 in
set_option maxRecDepth 100000 in
theorem ca_line (C : CxW E n0 p s m args meth c RL wsL_law cL_law 4 ret) (hX : va_X b L xs s s.heap) (hbl : b < n0) (hin : ∀ j : Int, 1 ≤ j → j ≤ 4 → vp_in (x + Int32.ofInt j) L) (hk : k ≤ room_1.cells ∧ n ≤ room_1.slots) (h : Inv σ) (kk : ∀ τ : Mem, Inv τ → JW E n0 p l e room_1 s m args below meth c Qf 4 k n 1363 (lvL E b x) [] τ) : JW E n0 p l e room_1 s m args below meth c Qf 4 k n 332 (lvL E b x) [] σ := by
  refine w_aload C 1 dL_law_332 rfl 2 rfl ?_
  refine w_arg C hX hbl dL_law_333 dL_law_334 dL_law_335 dL_law_336 dL_law_337 (hin 1 (by decide) (by decide)) ?_
  refine w_callI (As := [.int (xs (x + Int32.ofInt 1).toNatClampNeg)]) (rest := []) C 0 (c_X5_line (g_line h)) (cwV 1 C.2.2.2.2.2.1 gL_law_X5_line rfl rfl rfl hdX5_line ⟨Nat.le_of_ble_eq_true rfl, Nat.le_of_ble_eq_true rfl⟩) rfl rfl rfl rfl (Nat.le_of_ble_eq_true rfl) hk dL_law_338 (fun r τ h1 => ?_)
  refine w_aload C 2 dL_law_341 rfl 1 rfl ?_
  refine w_arg C hX hbl dL_law_342 dL_law_343 dL_law_344 dL_law_345 dL_law_346 (hin 1 (by decide) (by decide)) ?_
  refine w_callI (As := [.int (xs (x + Int32.ofInt 1).toNatClampNeg)]) (rest := [.int r]) C 64 (c_X6_line h1) (cwV 1 C.2.2.2.2.2.1 gL_law_X6_line rfl rfl rfl hdX6_line ⟨Nat.le_of_ble_eq_true rfl, Nat.le_of_ble_eq_true rfl⟩) rfl rfl rfl rfl (Nat.le_of_ble_eq_true rfl) hk dL_law_347 (fun r1 τ1 h2 => ?_)
  obtain ⟨e9, hI⟩ := h2
  subst e9
  exact w_icmp_eq C 1363 dL_law_350 (by decide) (fun _ => kk τ1 hI) (fun h9 => absurd rfl h9)
set_option maxHeartbeats 4000000 in
set_option maxRecDepth 100000 in
theorem ca_alter (C : CxW E n0 p s m args meth c RL wsL_law cL_law 4 ret) (hX : va_X b L xs s s.heap) (hbl : b < n0) (hin : ∀ j : Int, 1 ≤ j → j ≤ 4 → vp_in (x + Int32.ofInt j) L) (hk : k ≤ room_1.cells ∧ n ≤ room_1.slots) (h : Inv σ) (kk : ∀ τ : Mem, Inv τ → JW E n0 p l e room_1 s m args below meth c Qf 4 k n 1363 (lvL E b x) [] τ) : JW E n0 p l e room_1 s m args below meth c Qf 4 k n 355 (lvL E b x) [] σ := by
  refine w_aload C 1 dL_law_355 rfl 2 rfl ?_
  refine w_arg C hX hbl dL_law_356 dL_law_357 dL_law_358 dL_law_359 dL_law_360 (hin 1 (by decide) (by decide)) ?_
  refine w_arg C hX hbl dL_law_361 dL_law_362 dL_law_363 dL_law_364 dL_law_365 (hin 2 (by decide) (by decide)) ?_
  refine w_arg C hX hbl dL_law_366 dL_law_367 dL_law_368 dL_law_369 dL_law_370 (hin 3 (by decide) (by decide)) ?_
  refine w_callI (As := [.int (xs (x + Int32.ofInt 1).toNatClampNeg), .int (xs (x + Int32.ofInt 2).toNatClampNeg), .int (xs (x + Int32.ofInt 3).toNatClampNeg)]) (rest := []) C 0 (c_X5_alter (g_alter h)) (cwV 3 C.2.2.2.2.2.1 gL_law_X5_alter rfl rfl rfl hdX5_alter ⟨Nat.le_of_ble_eq_true rfl, Nat.le_of_ble_eq_true rfl⟩) rfl rfl rfl rfl (Nat.le_of_ble_eq_true rfl) hk dL_law_371 (fun r τ h1 => ?_)
  refine w_aload C 2 dL_law_374 rfl 1 rfl ?_
  refine w_arg C hX hbl dL_law_375 dL_law_376 dL_law_377 dL_law_378 dL_law_379 (hin 1 (by decide) (by decide)) ?_
  refine w_arg C hX hbl dL_law_380 dL_law_381 dL_law_382 dL_law_383 dL_law_384 (hin 2 (by decide) (by decide)) ?_
  refine w_arg C hX hbl dL_law_385 dL_law_386 dL_law_387 dL_law_388 dL_law_389 (hin 3 (by decide) (by decide)) ?_
  refine w_callI (As := [.int (xs (x + Int32.ofInt 1).toNatClampNeg), .int (xs (x + Int32.ofInt 2).toNatClampNeg), .int (xs (x + Int32.ofInt 3).toNatClampNeg)]) (rest := [.int r]) C 64 (c_X6_alter h1) (cwV 3 C.2.2.2.2.2.1 gL_law_X6_alter rfl rfl rfl hdX6_alter ⟨Nat.le_of_ble_eq_true rfl, Nat.le_of_ble_eq_true rfl⟩) rfl rfl rfl rfl (Nat.le_of_ble_eq_true rfl) hk dL_law_390 (fun r1 τ1 h2 => ?_)
  obtain ⟨e9, hI⟩ := h2
  subst e9
  exact w_icmp_eq C 1363 dL_law_393 (by decide) (fun _ => kk τ1 hI) (fun h9 => absurd rfl h9)
set_option maxHeartbeats 4000000 in
set_option maxRecDepth 100000 in
theorem ca_lumbago (C : CxW E n0 p s m args meth c RL wsL_law cL_law 4 ret) (hX : va_X b L xs s s.heap) (hbl : b < n0) (hin : ∀ j : Int, 1 ≤ j → j ≤ 4 → vp_in (x + Int32.ofInt j) L) (hk : k ≤ room_1.cells ∧ n ≤ room_1.slots) (h : Inv σ) (kk : ∀ τ : Mem, Inv τ → JW E n0 p l e room_1 s m args below meth c Qf 4 k n 1363 (lvL E b x) [] τ) : JW E n0 p l e room_1 s m args below meth c Qf 4 k n 398 (lvL E b x) [] σ := by
  refine w_aload C 1 dL_law_398 rfl 2 rfl ?_
  refine w_arg C hX hbl dL_law_399 dL_law_400 dL_law_401 dL_law_402 dL_law_403 (hin 1 (by decide) (by decide)) ?_
  refine w_callI (As := [.int (xs (x + Int32.ofInt 1).toNatClampNeg)]) (rest := []) C 0 (c_X5_lumbago (g_lumbago h)) (cwV 1 C.2.2.2.2.2.1 gL_law_X5_lumbago rfl rfl rfl hdX5_lumbago ⟨Nat.le_of_ble_eq_true rfl, Nat.le_of_ble_eq_true rfl⟩) rfl rfl rfl rfl (Nat.le_of_ble_eq_true rfl) hk dL_law_404 (fun r τ h1 => ?_)
  refine w_aload C 2 dL_law_407 rfl 1 rfl ?_
  refine w_arg C hX hbl dL_law_408 dL_law_409 dL_law_410 dL_law_411 dL_law_412 (hin 1 (by decide) (by decide)) ?_
  refine w_callI (As := [.int (xs (x + Int32.ofInt 1).toNatClampNeg)]) (rest := [.int r]) C 64 (c_X6_lumbago h1) (cwV 1 C.2.2.2.2.2.1 gL_law_X6_lumbago rfl rfl rfl hdX6_lumbago ⟨Nat.le_of_ble_eq_true rfl, Nat.le_of_ble_eq_true rfl⟩) rfl rfl rfl rfl (Nat.le_of_ble_eq_true rfl) hk dL_law_413 (fun r1 τ1 h2 => ?_)
  obtain ⟨e9, hI⟩ := h2
  subst e9
  exact w_icmp_eq C 1363 dL_law_416 (by decide) (fun _ => kk τ1 hI) (fun h9 => absurd rfl h9)
set_option maxHeartbeats 4000000 in
set_option maxRecDepth 100000 in
theorem ca_works (C : CxW E n0 p s m args meth c RL wsL_law cL_law 4 ret) (hX : va_X b L xs s s.heap) (hbl : b < n0) (hin : ∀ j : Int, 1 ≤ j → j ≤ 4 → vp_in (x + Int32.ofInt j) L) (hk : k ≤ room_1.cells ∧ n ≤ room_1.slots) (h : Inv σ) (kk : ∀ τ : Mem, Inv τ → JW E n0 p l e room_1 s m args below meth c Qf 4 k n 1363 (lvL E b x) [] τ) : JW E n0 p l e room_1 s m args below meth c Qf 4 k n 421 (lvL E b x) [] σ := by
  refine w_aload C 1 dL_law_421 rfl 2 rfl ?_
  refine w_arg C hX hbl dL_law_422 dL_law_423 dL_law_424 dL_law_425 dL_law_426 (hin 1 (by decide) (by decide)) ?_
  refine w_callI (As := [.int (xs (x + Int32.ofInt 1).toNatClampNeg)]) (rest := []) C 0 (c_X5_works (g_works h)) (cwV 1 C.2.2.2.2.2.1 gL_law_X5_works rfl rfl rfl hdX5_works ⟨Nat.le_of_ble_eq_true rfl, Nat.le_of_ble_eq_true rfl⟩) rfl rfl rfl rfl (Nat.le_of_ble_eq_true rfl) hk dL_law_427 (fun r τ h1 => ?_)
  refine w_aload C 2 dL_law_430 rfl 1 rfl ?_
  refine w_arg C hX hbl dL_law_431 dL_law_432 dL_law_433 dL_law_434 dL_law_435 (hin 1 (by decide) (by decide)) ?_
  refine w_callI (As := [.int (xs (x + Int32.ofInt 1).toNatClampNeg)]) (rest := [.int r]) C 64 (c_X6_works h1) (cwV 1 C.2.2.2.2.2.1 gL_law_X6_works rfl rfl rfl hdX6_works ⟨Nat.le_of_ble_eq_true rfl, Nat.le_of_ble_eq_true rfl⟩) rfl rfl rfl rfl (Nat.le_of_ble_eq_true rfl) hk dL_law_436 (fun r1 τ1 h2 => ?_)
  obtain ⟨e9, hI⟩ := h2
  subst e9
  exact w_icmp_eq C 1363 dL_law_439 (by decide) (fun _ => kk τ1 hI) (fun h9 => absurd rfl h9)
set_option maxHeartbeats 4000000 in
set_option maxRecDepth 100000 in
theorem ca_change (C : CxW E n0 p s m args meth c RL wsL_law cL_law 4 ret) (hX : va_X b L xs s s.heap) (hbl : b < n0) (hin : ∀ j : Int, 1 ≤ j → j ≤ 4 → vp_in (x + Int32.ofInt j) L) (hk : k ≤ room_1.cells ∧ n ≤ room_1.slots) (h : Inv σ) (kk : ∀ τ : Mem, Inv τ → JW E n0 p l e room_1 s m args below meth c Qf 4 k n 1363 (lvL E b x) [] τ) : JW E n0 p l e room_1 s m args below meth c Qf 4 k n 444 (lvL E b x) [] σ := by
  refine w_aload C 1 dL_law_444 rfl 2 rfl ?_
  refine w_arg C hX hbl dL_law_445 dL_law_446 dL_law_447 dL_law_448 dL_law_449 (hin 1 (by decide) (by decide)) ?_
  refine w_arg C hX hbl dL_law_450 dL_law_451 dL_law_452 dL_law_453 dL_law_454 (hin 2 (by decide) (by decide)) ?_
  refine w_callI (As := [.int (xs (x + Int32.ofInt 1).toNatClampNeg), .int (xs (x + Int32.ofInt 2).toNatClampNeg)]) (rest := []) C 0 (c_X5_change (g_change h)) (cwV 2 C.2.2.2.2.2.1 gL_law_X5_change rfl rfl rfl hdX5_change ⟨Nat.le_of_ble_eq_true rfl, Nat.le_of_ble_eq_true rfl⟩) rfl rfl rfl rfl (Nat.le_of_ble_eq_true rfl) hk dL_law_455 (fun r τ h1 => ?_)
  refine w_aload C 2 dL_law_458 rfl 1 rfl ?_
  refine w_arg C hX hbl dL_law_459 dL_law_460 dL_law_461 dL_law_462 dL_law_463 (hin 1 (by decide) (by decide)) ?_
  refine w_arg C hX hbl dL_law_464 dL_law_465 dL_law_466 dL_law_467 dL_law_468 (hin 2 (by decide) (by decide)) ?_
  refine w_callI (As := [.int (xs (x + Int32.ofInt 1).toNatClampNeg), .int (xs (x + Int32.ofInt 2).toNatClampNeg)]) (rest := [.int r]) C 64 (c_X6_change h1) (cwV 2 C.2.2.2.2.2.1 gL_law_X6_change rfl rfl rfl hdX6_change ⟨Nat.le_of_ble_eq_true rfl, Nat.le_of_ble_eq_true rfl⟩) rfl rfl rfl rfl (Nat.le_of_ble_eq_true rfl) hk dL_law_469 (fun r1 τ1 h2 => ?_)
  obtain ⟨e9, hI⟩ := h2
  subst e9
  exact w_icmp_eq C 1363 dL_law_472 (by decide) (fun _ => kk τ1 hI) (fun h9 => absurd rfl h9)
set_option maxHeartbeats 4000000 in
set_option maxRecDepth 100000 in
theorem ca_bear (C : CxW E n0 p s m args meth c RL wsL_law cL_law 4 ret) (hX : va_X b L xs s s.heap) (hbl : b < n0) (hin : ∀ j : Int, 1 ≤ j → j ≤ 4 → vp_in (x + Int32.ofInt j) L) (hk : k ≤ room_1.cells ∧ n ≤ room_1.slots) (h : Inv σ) (kk : ∀ τ : Mem, Inv τ → JW E n0 p l e room_1 s m args below meth c Qf 4 k n 1363 (lvL E b x) [] τ) : JW E n0 p l e room_1 s m args below meth c Qf 4 k n 477 (lvL E b x) [] σ := by
  refine w_aload C 1 dL_law_477 rfl 2 rfl ?_
  refine w_arg C hX hbl dL_law_478 dL_law_479 dL_law_480 dL_law_481 dL_law_482 (hin 1 (by decide) (by decide)) ?_
  refine w_arg C hX hbl dL_law_483 dL_law_484 dL_law_485 dL_law_486 dL_law_487 (hin 2 (by decide) (by decide)) ?_
  refine w_arg C hX hbl dL_law_488 dL_law_489 dL_law_490 dL_law_491 dL_law_492 (hin 3 (by decide) (by decide)) ?_
  refine w_callI (As := [.int (xs (x + Int32.ofInt 1).toNatClampNeg), .int (xs (x + Int32.ofInt 2).toNatClampNeg), .int (xs (x + Int32.ofInt 3).toNatClampNeg)]) (rest := []) C 0 (c_X5_bear (g_bear h)) (cwV 3 C.2.2.2.2.2.1 gL_law_X5_bear rfl rfl rfl hdX5_bear ⟨Nat.le_of_ble_eq_true rfl, Nat.le_of_ble_eq_true rfl⟩) rfl rfl rfl rfl (Nat.le_of_ble_eq_true rfl) hk dL_law_493 (fun r τ h1 => ?_)
  refine w_aload C 2 dL_law_496 rfl 1 rfl ?_
  refine w_arg C hX hbl dL_law_497 dL_law_498 dL_law_499 dL_law_500 dL_law_501 (hin 1 (by decide) (by decide)) ?_
  refine w_arg C hX hbl dL_law_502 dL_law_503 dL_law_504 dL_law_505 dL_law_506 (hin 2 (by decide) (by decide)) ?_
  refine w_arg C hX hbl dL_law_507 dL_law_508 dL_law_509 dL_law_510 dL_law_511 (hin 3 (by decide) (by decide)) ?_
  refine w_callI (As := [.int (xs (x + Int32.ofInt 1).toNatClampNeg), .int (xs (x + Int32.ofInt 2).toNatClampNeg), .int (xs (x + Int32.ofInt 3).toNatClampNeg)]) (rest := [.int r]) C 64 (c_X6_bear h1) (cwV 3 C.2.2.2.2.2.1 gL_law_X6_bear rfl rfl rfl hdX6_bear ⟨Nat.le_of_ble_eq_true rfl, Nat.le_of_ble_eq_true rfl⟩) rfl rfl rfl rfl (Nat.le_of_ble_eq_true rfl) hk dL_law_512 (fun r1 τ1 h2 => ?_)
  obtain ⟨e9, hI⟩ := h2
  subst e9
  exact w_icmp_eq C 1363 dL_law_515 (by decide) (fun _ => kk τ1 hI) (fun h9 => absurd rfl h9)
set_option maxHeartbeats 4000000 in
set_option maxRecDepth 100000 in
theorem ca_reigns (C : CxW E n0 p s m args meth c RL wsL_law cL_law 4 ret) (hX : va_X b L xs s s.heap) (hbl : b < n0) (hin : ∀ j : Int, 1 ≤ j → j ≤ 4 → vp_in (x + Int32.ofInt j) L) (hk : k ≤ room_1.cells ∧ n ≤ room_1.slots) (h : Inv σ) (kk : ∀ τ : Mem, Inv τ → JW E n0 p l e room_1 s m args below meth c Qf 4 k n 1363 (lvL E b x) [] τ) : JW E n0 p l e room_1 s m args below meth c Qf 4 k n 520 (lvL E b x) [] σ := by
  refine w_aload C 1 dL_law_520 rfl 2 rfl ?_
  refine w_arg C hX hbl dL_law_521 dL_law_522 dL_law_523 dL_law_524 dL_law_525 (hin 1 (by decide) (by decide)) ?_
  refine w_callI (As := [.int (xs (x + Int32.ofInt 1).toNatClampNeg)]) (rest := []) C 0 (c_X5_reigns (g_reigns h)) (cwV 1 C.2.2.2.2.2.1 gL_law_X5_reigns rfl rfl rfl hdX5_reigns ⟨Nat.le_of_ble_eq_true rfl, Nat.le_of_ble_eq_true rfl⟩) rfl rfl rfl rfl (Nat.le_of_ble_eq_true rfl) hk dL_law_526 (fun r τ h1 => ?_)
  refine w_aload C 2 dL_law_529 rfl 1 rfl ?_
  refine w_arg C hX hbl dL_law_530 dL_law_531 dL_law_532 dL_law_533 dL_law_534 (hin 1 (by decide) (by decide)) ?_
  refine w_callI (As := [.int (xs (x + Int32.ofInt 1).toNatClampNeg)]) (rest := [.int r]) C 64 (c_X6_reigns h1) (cwV 1 C.2.2.2.2.2.1 gL_law_X6_reigns rfl rfl rfl hdX6_reigns ⟨Nat.le_of_ble_eq_true rfl, Nat.le_of_ble_eq_true rfl⟩) rfl rfl rfl rfl (Nat.le_of_ble_eq_true rfl) hk dL_law_535 (fun r1 τ1 h2 => ?_)
  obtain ⟨e9, hI⟩ := h2
  subst e9
  exact w_icmp_eq C 1363 dL_law_538 (by decide) (fun _ => kk τ1 hI) (fun h9 => absurd rfl h9)
end LAWC0
