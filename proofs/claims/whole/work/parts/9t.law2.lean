/-! THE LAW: its cases -/
theorem y_rng (x : Int32) : z_R x.toInt := ⟨Int32.le_toInt x, Int32.toInt_lt x⟩
theorem y_w1 (base t : Nat) (w : Int) : ([z_v base (t, w)].map fun v => v.category).sum ≤ 8 := by
  show (z_v base (t, w)).category + 0 ≤ 8
  rw [z_cat]
  split <;> omega
section LAW
variable {p : Program} {l : Launch} {e : Env} {s : State} {m : MethodId} {below : List Frame} {meth : Method} {c : Code} {b L : Nat} {xs : Nat → Int32} {D : va_G} {ca : Nat → ClassId} {pc : Nat} {i : Int32} {st : List Value} {h : z_H} {n : Nat}
theorem y_eq (C : y_At p s m meth c b L xs D ca) {w off : Int} {tgt : Nat} (d : decode code pc = .ok (.if_icmp .eq off, 3)) (ht : (pc : Int) + off = (tgt : Int)) (k : y_V p l e s m below meth c b D ca tgt i st h) : y_V p l e s m below meth c b D ca pc i (z_v s.heap.size (0, w) :: z_v s.heap.size (0, w) :: st) h := by
  obtain ⟨hx, hb, hr, hml, hown, hts, hX, hbl, hlk, hK⟩ := C
  intro H locs ls hW hS hl
  exact lv_icmp_eq (tgt := tgt) hx hb d ht (fun _ => k H locs ls hW hS hl) (fun q => absurd rfl q)
theorem y_leq (C : y_At p s m meth c b L xs D ca) {w off : Int} {tgt : Nat} (d : decode code pc = .ok (.lcmp, 1)) (d2 : decode code (pc + 1) = .ok (.ifCond .eq off, 3)) (ht : ((pc + 1 : Nat) : Int) + off = (tgt : Int)) (k : y_V p l e s m below meth c b D ca tgt i st h) : y_V p l e s m below meth c b D ca pc i (z_v s.heap.size (1, w) :: z_v s.heap.size (1, w) :: st) h := by
  obtain ⟨hx, hb, hr, hml, hown, hts, hX, hbl, hlk, hK⟩ := C
  intro H locs ls hW hS hl
  have e0 : lg_cmp (z_l w) (z_l w) = 0 := by
    unfold lg_cmp
    rw [if_neg Int64.lt_irrefl, if_pos rfl]
  refine W.lcmp hx hb d ?_
  rw [e0]
  exact lv_if_eq (tgt := tgt) hx hb d2 ht (fun _ => k H locs ls hW hS hl) (fun q => absurd rfl q)
theorem y_c0 (C : y_At p s m meth c b L xs D ca) (hL : L ≤ 384) (hi : i = nI n) (hn : n + 5 < L) (v : v_N h) (kk : ∀ h2, v_N h2 → y_V p l e s m below meth c b D ca 1082 i [] h2) : y_V p l e s m below meth c b D ca 164 i [] h := by
  obtain ⟨P, hC1, hk⟩ := v_type v (y_rng _)
  refine y_al1 C dL_law_164 ?_
  refine y_arg C (k := 1) hi (by omega) hL rfl dL_law_165 dL_law_166 dL_law_167 dL_law_168 dL_law_169 ?_
  refine y_call C (N := mX9_type) (k := 0) (ci := 8) (as := [(0, (xs (n + 1)).toInt)]) (rest := []) dL_law_170 oX9_type l_RL_13 eX9_type vX9_type ⟨Nat.le_of_ble_eq_true rfl, Nat.le_of_ble_eq_true rfl⟩ ⟨rfl, rfl⟩ rfl (fun q hq => by cases hq; rfl) rfl rfl (Nat.le_of_ble_eq_true rfl) hC1 rfl (fun r h1 hp => ?_)
  obtain ⟨w, P2, er, hC2, hk2⟩ := hk r h1 hp
  subst er
  refine y_al2 C dL_law_173 ?_
  refine y_arg C (k := 1) hi (by omega) hL rfl dL_law_174 dL_law_175 dL_law_176 dL_law_177 dL_law_178 ?_
  refine y_call C (N := mX10_type) (k := 89) (ci := 9) (as := [(0, (xs (n + 1)).toInt)]) (rest := [z_v s.heap.size (0, w)]) dL_law_179 oX10_type l_RL_17 eX10_type vX10_type ⟨Nat.le_of_ble_eq_true rfl, Nat.le_of_ble_eq_true rfl⟩ ⟨rfl, rfl⟩ rfl (fun q hq => by cases hq; rfl) rfl rfl (y_w1 _ _ _) hC2 rfl (fun r2 h2 hq => ?_)
  obtain ⟨e2, v2⟩ := hk2 r2 h2 hq
  subst e2
  refine y_eq C (tgt := 1082) dL_law_182 (by decide) ?_
  exact kk h2 v2
theorem y_c1 (C : y_At p s m meth c b L xs D ca) (hL : L ≤ 384) (hi : i = nI n) (hn : n + 5 < L) (v : v_N h) (kk : ∀ h2, v_N h2 → y_V p l e s m below meth c b D ca 1082 i [] h2) : y_V p l e s m below meth c b D ca 187 i [] h := by
  obtain ⟨P, hC1, hk⟩ := v_clear v
  refine y_al1 C dL_law_187 ?_
  refine y_call C (N := mX9_clear) (k := 0) (ci := 8) (as := []) (rest := []) dL_law_188 oX9_clear l_RL_18 eX9_clear vX9_clear ⟨Nat.le_of_ble_eq_true rfl, Nat.le_of_ble_eq_true rfl⟩ ⟨rfl, rfl⟩ rfl (fun q hq => by cases hq; rfl) rfl rfl (Nat.le_of_ble_eq_true rfl) hC1 rfl (fun r h1 hp => ?_)
  obtain ⟨w, P2, er, hC2, hk2⟩ := hk r h1 hp
  subst er
  refine y_al2 C dL_law_191 ?_
  refine y_call C (N := mX10_clear) (k := 89) (ci := 9) (as := []) (rest := [z_v s.heap.size (0, w)]) dL_law_192 oX10_clear l_RL_22 eX10_clear vX10_clear ⟨Nat.le_of_ble_eq_true rfl, Nat.le_of_ble_eq_true rfl⟩ ⟨rfl, rfl⟩ rfl (fun q hq => by cases hq; rfl) rfl rfl (y_w1 _ _ _) hC2 rfl (fun r2 h2 hq => ?_)
  obtain ⟨e2, v2⟩ := hk2 r2 h2 hq
  subst e2
  refine y_eq C (tgt := 1082) dL_law_195 (by decide) ?_
  exact kk h2 v2
theorem y_c2 (C : y_At p s m meth c b L xs D ca) (hL : L ≤ 384) (hi : i = nI n) (hn : n + 5 < L) (v : v_N h) (kk : ∀ h2, v_N h2 → y_V p l e s m below meth c b D ca 1082 i [] h2) : y_V p l e s m below meth c b D ca 200 i [] h := by
  obtain ⟨P, hC1, hk⟩ := v_window v
  refine y_al1 C dL_law_200 ?_
  refine y_call C (N := mX9_window) (k := 0) (ci := 8) (as := []) (rest := []) dL_law_201 oX9_window l_RL_23 eX9_window vX9_window ⟨Nat.le_of_ble_eq_true rfl, Nat.le_of_ble_eq_true rfl⟩ ⟨rfl, rfl⟩ rfl (fun q hq => by cases hq; rfl) rfl rfl (Nat.le_of_ble_eq_true rfl) hC1 rfl (fun r h1 hp => ?_)
  obtain ⟨w, P2, er, hC2, hk2⟩ := hk r h1 hp
  subst er
  refine y_al2 C dL_law_204 ?_
  refine y_call C (N := mX10_window) (k := 89) (ci := 9) (as := []) (rest := [z_v s.heap.size (0, w)]) dL_law_205 oX10_window l_RL_26 eX10_window vX10_window ⟨Nat.le_of_ble_eq_true rfl, Nat.le_of_ble_eq_true rfl⟩ ⟨rfl, rfl⟩ rfl (fun q hq => by cases hq; rfl) rfl rfl (y_w1 _ _ _) hC2 rfl (fun r2 h2 hq => ?_)
  obtain ⟨e2, v2⟩ := hk2 r2 h2 hq
  subst e2
  refine y_eq C (tgt := 1082) dL_law_208 (by decide) ?_
  exact kk h2 v2
theorem y_c3 (C : y_At p s m meth c b L xs D ca) (hL : L ≤ 384) (hi : i = nI n) (hn : n + 5 < L) (v : v_N h) (kk : ∀ h2, v_N h2 → y_V p l e s m below meth c b D ca 1082 i [] h2) : y_V p l e s m below meth c b D ca 213 i [] h := by
  obtain ⟨P, hC1, hk⟩ := v_pane v (y_rng _) (y_rng _) (y_rng _)
  refine y_al1 C dL_law_213 ?_
  refine y_arg C (k := 1) hi (by omega) hL rfl dL_law_214 dL_law_215 dL_law_216 dL_law_217 dL_law_218 ?_
  refine y_arg C (k := 2) hi (by omega) hL rfl dL_law_219 dL_law_220 dL_law_221 dL_law_222 dL_law_223 ?_
  refine y_arg C (k := 3) hi (by omega) hL rfl dL_law_224 dL_law_225 dL_law_226 dL_law_227 dL_law_228 ?_
  refine y_call C (N := mX9_pane) (k := 0) (ci := 8) (as := [(0, (xs (n + 1)).toInt), (0, (xs (n + 2)).toInt), (0, (xs (n + 3)).toInt)]) (rest := []) dL_law_229 oX9_pane l_RL_27 eX9_pane vX9_pane ⟨Nat.le_of_ble_eq_true rfl, Nat.le_of_ble_eq_true rfl⟩ ⟨rfl, rfl⟩ rfl (fun q hq => by cases hq; rfl) rfl rfl (Nat.le_of_ble_eq_true rfl) hC1 rfl (fun r h1 hp => ?_)
  obtain ⟨w, P2, er, hC2, hk2⟩ := hk r h1 hp
  subst er
  refine y_al2 C dL_law_232 ?_
  refine y_arg C (k := 1) hi (by omega) hL rfl dL_law_233 dL_law_234 dL_law_235 dL_law_236 dL_law_237 ?_
  refine y_arg C (k := 2) hi (by omega) hL rfl dL_law_238 dL_law_239 dL_law_240 dL_law_241 dL_law_242 ?_
  refine y_arg C (k := 3) hi (by omega) hL rfl dL_law_243 dL_law_244 dL_law_245 dL_law_246 dL_law_247 ?_
  refine y_call C (N := mX10_pane) (k := 89) (ci := 9) (as := [(0, (xs (n + 1)).toInt), (0, (xs (n + 2)).toInt), (0, (xs (n + 3)).toInt)]) (rest := [z_v s.heap.size (0, w)]) dL_law_248 oX10_pane l_RL_31 eX10_pane vX10_pane ⟨Nat.le_of_ble_eq_true rfl, Nat.le_of_ble_eq_true rfl⟩ ⟨rfl, rfl⟩ rfl (fun q hq => by cases hq; rfl) rfl rfl (y_w1 _ _ _) hC2 rfl (fun r2 h2 hq => ?_)
  obtain ⟨e2, v2⟩ := hk2 r2 h2 hq
  subst e2
  refine y_eq C (tgt := 1082) dL_law_251 (by decide) ?_
  exact kk h2 v2
theorem y_c4 (C : y_At p s m meth c b L xs D ca) (hL : L ≤ 384) (hi : i = nI n) (hn : n + 5 < L) (v : v_N h) (kk : ∀ h2, v_N h2 → y_V p l e s m below meth c b D ca 1082 i [] h2) : y_V p l e s m below meth c b D ca 256 i [] h := by
  obtain ⟨P, hC1, hk⟩ := v_sheet v (y_rng _) (y_rng _)
  refine y_al1 C dL_law_256 ?_
  refine y_arg C (k := 1) hi (by omega) hL rfl dL_law_257 dL_law_258 dL_law_259 dL_law_260 dL_law_261 ?_
  refine y_arg C (k := 2) hi (by omega) hL rfl dL_law_262 dL_law_263 dL_law_264 dL_law_265 dL_law_266 ?_
  refine y_call C (N := mX9_sheet) (k := 0) (ci := 8) (as := [(0, (xs (n + 1)).toInt), (0, (xs (n + 2)).toInt)]) (rest := []) dL_law_267 oX9_sheet l_RL_32 eX9_sheet vX9_sheet ⟨Nat.le_of_ble_eq_true rfl, Nat.le_of_ble_eq_true rfl⟩ ⟨rfl, rfl⟩ rfl (fun q hq => by cases hq; rfl) rfl rfl (Nat.le_of_ble_eq_true rfl) hC1 rfl (fun r h1 hp => ?_)
  obtain ⟨w, P2, er, hC2, hk2⟩ := hk r h1 hp
  subst er
  refine y_al2 C dL_law_270 ?_
  refine y_arg C (k := 1) hi (by omega) hL rfl dL_law_271 dL_law_272 dL_law_273 dL_law_274 dL_law_275 ?_
  refine y_arg C (k := 2) hi (by omega) hL rfl dL_law_276 dL_law_277 dL_law_278 dL_law_279 dL_law_280 ?_
  refine y_call C (N := mX10_sheet) (k := 89) (ci := 9) (as := [(0, (xs (n + 1)).toInt), (0, (xs (n + 2)).toInt)]) (rest := [z_v s.heap.size (0, w)]) dL_law_281 oX10_sheet l_RL_36 eX10_sheet vX10_sheet ⟨Nat.le_of_ble_eq_true rfl, Nat.le_of_ble_eq_true rfl⟩ ⟨rfl, rfl⟩ rfl (fun q hq => by cases hq; rfl) rfl rfl (y_w1 _ _ _) hC2 rfl (fun r2 h2 hq => ?_)
  obtain ⟨e2, v2⟩ := hk2 r2 h2 hq
  subst e2
  refine y_eq C (tgt := 1082) dL_law_284 (by decide) ?_
  exact kk h2 v2
theorem y_c5 (C : y_At p s m meth c b L xs D ca) (hL : L ≤ 384) (hi : i = nI n) (hn : n + 5 < L) (v : v_N h) (kk : ∀ h2, v_N h2 → y_V p l e s m below meth c b D ca 1082 i [] h2) : y_V p l e s m below meth c b D ca 289 i [] h := by
  obtain ⟨P, hC1, hk⟩ := v_lays v (y_rng _) (y_rng _) (y_rng _)
  refine y_al1 C dL_law_289 ?_
  refine y_arg C (k := 1) hi (by omega) hL rfl dL_law_290 dL_law_291 dL_law_292 dL_law_293 dL_law_294 ?_
  refine y_arg C (k := 2) hi (by omega) hL rfl dL_law_295 dL_law_296 dL_law_297 dL_law_298 dL_law_299 ?_
  refine y_arg C (k := 3) hi (by omega) hL rfl dL_law_300 dL_law_301 dL_law_302 dL_law_303 dL_law_304 ?_
  refine y_call C (N := mX9_lays) (k := 0) (ci := 8) (as := [(0, (xs (n + 1)).toInt), (0, (xs (n + 2)).toInt), (0, (xs (n + 3)).toInt)]) (rest := []) dL_law_305 oX9_lays l_RL_37 eX9_lays vX9_lays ⟨Nat.le_of_ble_eq_true rfl, Nat.le_of_ble_eq_true rfl⟩ ⟨rfl, rfl⟩ rfl (fun q hq => by cases hq; rfl) rfl rfl (Nat.le_of_ble_eq_true rfl) hC1 rfl (fun r h1 hp => ?_)
  obtain ⟨w, P2, er, hC2, hk2⟩ := hk r h1 hp
  subst er
  refine y_al2 C dL_law_308 ?_
  refine y_arg C (k := 1) hi (by omega) hL rfl dL_law_309 dL_law_310 dL_law_311 dL_law_312 dL_law_313 ?_
  refine y_arg C (k := 2) hi (by omega) hL rfl dL_law_314 dL_law_315 dL_law_316 dL_law_317 dL_law_318 ?_
  refine y_arg C (k := 3) hi (by omega) hL rfl dL_law_319 dL_law_320 dL_law_321 dL_law_322 dL_law_323 ?_
  refine y_call C (N := mX10_lays) (k := 89) (ci := 9) (as := [(0, (xs (n + 1)).toInt), (0, (xs (n + 2)).toInt), (0, (xs (n + 3)).toInt)]) (rest := [z_v s.heap.size (0, w)]) dL_law_324 oX10_lays l_RL_40 eX10_lays vX10_lays ⟨Nat.le_of_ble_eq_true rfl, Nat.le_of_ble_eq_true rfl⟩ ⟨rfl, rfl⟩ rfl (fun q hq => by cases hq; rfl) rfl rfl (y_w1 _ _ _) hC2 rfl (fun r2 h2 hq => ?_)
  obtain ⟨e2, v2⟩ := hk2 r2 h2 hq
  subst e2
  refine y_eq C (tgt := 1082) dL_law_327 (by decide) ?_
  exact kk h2 v2
theorem y_c6 (C : y_At p s m meth c b L xs D ca) (hL : L ≤ 384) (hi : i = nI n) (hn : n + 5 < L) (v : v_N h) (kk : ∀ h2, v_N h2 → y_V p l e s m below meth c b D ca 1082 i [] h2) : y_V p l e s m below meth c b D ca 332 i [] h := by
  obtain ⟨P, hC1, hk⟩ := v_takes v (y_rng _)
  refine y_al1 C dL_law_332 ?_
  refine y_arg C (k := 1) hi (by omega) hL rfl dL_law_333 dL_law_334 dL_law_335 dL_law_336 dL_law_337 ?_
  refine y_call C (N := mX9_takes) (k := 0) (ci := 8) (as := [(0, (xs (n + 1)).toInt)]) (rest := []) dL_law_338 oX9_takes l_RL_41 eX9_takes vX9_takes ⟨Nat.le_of_ble_eq_true rfl, Nat.le_of_ble_eq_true rfl⟩ ⟨rfl, rfl⟩ rfl (fun q hq => by cases hq; rfl) rfl rfl (Nat.le_of_ble_eq_true rfl) hC1 rfl (fun r h1 hp => ?_)
  obtain ⟨w, P2, er, hC2, hk2⟩ := hk r h1 hp
  subst er
  refine y_al2 C dL_law_341 ?_
  refine y_arg C (k := 1) hi (by omega) hL rfl dL_law_342 dL_law_343 dL_law_344 dL_law_345 dL_law_346 ?_
  refine y_call C (N := mX10_takes) (k := 89) (ci := 9) (as := [(0, (xs (n + 1)).toInt)]) (rest := [z_v s.heap.size (0, w)]) dL_law_347 oX10_takes l_RL_44 eX10_takes vX10_takes ⟨Nat.le_of_ble_eq_true rfl, Nat.le_of_ble_eq_true rfl⟩ ⟨rfl, rfl⟩ rfl (fun q hq => by cases hq; rfl) rfl rfl (y_w1 _ _ _) hC2 rfl (fun r2 h2 hq => ?_)
  obtain ⟨e2, v2⟩ := hk2 r2 h2 hq
  subst e2
  refine y_eq C (tgt := 1082) dL_law_350 (by decide) ?_
  exact kk h2 v2
theorem y_c7 (C : y_At p s m meth c b L xs D ca) (hL : L ≤ 384) (hi : i = nI n) (hn : n + 5 < L) (v : v_N h) (kk : ∀ h2, v_N h2 → y_V p l e s m below meth c b D ca 1082 i [] h2) : y_V p l e s m below meth c b D ca 355 i [] h := by
  obtain ⟨P, hC1, hk⟩ := v_breaks v (y_rng _) (y_rng _)
  refine y_al1 C dL_law_355 ?_
  refine y_arg C (k := 1) hi (by omega) hL rfl dL_law_356 dL_law_357 dL_law_358 dL_law_359 dL_law_360 ?_
  refine y_arg C (k := 2) hi (by omega) hL rfl dL_law_361 dL_law_362 dL_law_363 dL_law_364 dL_law_365 ?_
  refine y_call C (N := mX9_breaks) (k := 0) (ci := 8) (as := [(0, (xs (n + 1)).toInt), (0, (xs (n + 2)).toInt)]) (rest := []) dL_law_366 oX9_breaks l_RL_45 eX9_breaks vX9_breaks ⟨Nat.le_of_ble_eq_true rfl, Nat.le_of_ble_eq_true rfl⟩ ⟨rfl, rfl⟩ rfl (fun q hq => by cases hq; rfl) rfl rfl (Nat.le_of_ble_eq_true rfl) hC1 rfl (fun r h1 hp => ?_)
  obtain ⟨w, P2, er, hC2, hk2⟩ := hk r h1 hp
  subst er
  refine y_al2 C dL_law_369 ?_
  refine y_arg C (k := 1) hi (by omega) hL rfl dL_law_370 dL_law_371 dL_law_372 dL_law_373 dL_law_374 ?_
  refine y_arg C (k := 2) hi (by omega) hL rfl dL_law_375 dL_law_376 dL_law_377 dL_law_378 dL_law_379 ?_
  refine y_call C (N := mX10_breaks) (k := 89) (ci := 9) (as := [(0, (xs (n + 1)).toInt), (0, (xs (n + 2)).toInt)]) (rest := [z_v s.heap.size (0, w)]) dL_law_380 oX10_breaks l_RL_48 eX10_breaks vX10_breaks ⟨Nat.le_of_ble_eq_true rfl, Nat.le_of_ble_eq_true rfl⟩ ⟨rfl, rfl⟩ rfl (fun q hq => by cases hq; rfl) rfl rfl (y_w1 _ _ _) hC2 rfl (fun r2 h2 hq => ?_)
  obtain ⟨e2, v2⟩ := hk2 r2 h2 hq
  subst e2
  refine y_eq C (tgt := 1082) dL_law_383 (by decide) ?_
  exact kk h2 v2
theorem y_c8 (C : y_At p s m meth c b L xs D ca) (hL : L ≤ 384) (hi : i = nI n) (hn : n + 5 < L) (v : v_N h) (kk : ∀ h2, v_N h2 → y_V p l e s m below meth c b D ca 1082 i [] h2) : y_V p l e s m below meth c b D ca 388 i [] h := by
  obtain ⟨P, hC1, hk⟩ := v_mends v (y_rng _) (y_rng _)
  refine y_al1 C dL_law_388 ?_
  refine y_arg C (k := 1) hi (by omega) hL rfl dL_law_389 dL_law_390 dL_law_391 dL_law_392 dL_law_393 ?_
  refine y_arg C (k := 2) hi (by omega) hL rfl dL_law_394 dL_law_395 dL_law_396 dL_law_397 dL_law_398 ?_
  refine y_call C (N := mX9_mends) (k := 0) (ci := 8) (as := [(0, (xs (n + 1)).toInt), (0, (xs (n + 2)).toInt)]) (rest := []) dL_law_399 oX9_mends l_RL_49 eX9_mends vX9_mends ⟨Nat.le_of_ble_eq_true rfl, Nat.le_of_ble_eq_true rfl⟩ ⟨rfl, rfl⟩ rfl (fun q hq => by cases hq; rfl) rfl rfl (Nat.le_of_ble_eq_true rfl) hC1 rfl (fun r h1 hp => ?_)
  obtain ⟨w, P2, er, hC2, hk2⟩ := hk r h1 hp
  subst er
  refine y_al2 C dL_law_402 ?_
  refine y_arg C (k := 1) hi (by omega) hL rfl dL_law_403 dL_law_404 dL_law_405 dL_law_406 dL_law_407 ?_
  refine y_arg C (k := 2) hi (by omega) hL rfl dL_law_408 dL_law_409 dL_law_410 dL_law_411 dL_law_412 ?_
  refine y_call C (N := mX10_mends) (k := 89) (ci := 9) (as := [(0, (xs (n + 1)).toInt), (0, (xs (n + 2)).toInt)]) (rest := [z_v s.heap.size (0, w)]) dL_law_413 oX10_mends l_RL_52 eX10_mends vX10_mends ⟨Nat.le_of_ble_eq_true rfl, Nat.le_of_ble_eq_true rfl⟩ ⟨rfl, rfl⟩ rfl (fun q hq => by cases hq; rfl) rfl rfl (y_w1 _ _ _) hC2 rfl (fun r2 h2 hq => ?_)
  obtain ⟨e2, v2⟩ := hk2 r2 h2 hq
  subst e2
  refine y_eq C (tgt := 1082) dL_law_416 (by decide) ?_
  exact kk h2 v2
theorem y_c9 (C : y_At p s m meth c b L xs D ca) (hL : L ≤ 384) (hi : i = nI n) (hn : n + 5 < L) (v : v_N h) (kk : ∀ h2, v_N h2 → y_V p l e s m below meth c b D ca 1082 i [] h2) : y_V p l e s m below meth c b D ca 421 i [] h := by
  obtain ⟨P, hC1, hk⟩ := v_moves v (y_rng _) (y_rng _)
  refine y_al1 C dL_law_421 ?_
  refine y_arg C (k := 1) hi (by omega) hL rfl dL_law_422 dL_law_423 dL_law_424 dL_law_425 dL_law_426 ?_
  refine y_arg C (k := 2) hi (by omega) hL rfl dL_law_427 dL_law_428 dL_law_429 dL_law_430 dL_law_431 ?_
  refine y_call C (N := mX9_moves) (k := 0) (ci := 8) (as := [(0, (xs (n + 1)).toInt), (0, (xs (n + 2)).toInt)]) (rest := []) dL_law_432 oX9_moves l_RL_53 eX9_moves vX9_moves ⟨Nat.le_of_ble_eq_true rfl, Nat.le_of_ble_eq_true rfl⟩ ⟨rfl, rfl⟩ rfl (fun q hq => by cases hq; rfl) rfl rfl (Nat.le_of_ble_eq_true rfl) hC1 rfl (fun r h1 hp => ?_)
  obtain ⟨w, P2, er, hC2, hk2⟩ := hk r h1 hp
  subst er
  refine y_al2 C dL_law_435 ?_
  refine y_arg C (k := 1) hi (by omega) hL rfl dL_law_436 dL_law_437 dL_law_438 dL_law_439 dL_law_440 ?_
  refine y_arg C (k := 2) hi (by omega) hL rfl dL_law_441 dL_law_442 dL_law_443 dL_law_444 dL_law_445 ?_
  refine y_call C (N := mX10_moves) (k := 89) (ci := 9) (as := [(0, (xs (n + 1)).toInt), (0, (xs (n + 2)).toInt)]) (rest := [z_v s.heap.size (0, w)]) dL_law_446 oX10_moves l_RL_56 eX10_moves vX10_moves ⟨Nat.le_of_ble_eq_true rfl, Nat.le_of_ble_eq_true rfl⟩ ⟨rfl, rfl⟩ rfl (fun q hq => by cases hq; rfl) rfl rfl (y_w1 _ _ _) hC2 rfl (fun r2 h2 hq => ?_)
  obtain ⟨e2, v2⟩ := hk2 r2 h2 hq
  subst e2
  refine y_eq C (tgt := 1082) dL_law_449 (by decide) ?_
  exact kk h2 v2
theorem y_c10 (C : y_At p s m meth c b L xs D ca) (hL : L ≤ 384) (hi : i = nI n) (hn : n + 5 < L) (v : v_N h) (kk : ∀ h2, v_N h2 → y_V p l e s m below meth c b D ca 1082 i [] h2) : y_V p l e s m below meth c b D ca 454 i [] h := by
  obtain ⟨P, hC1, hk⟩ := v_undo v
  refine y_al1 C dL_law_454 ?_
  refine y_call C (N := mX9_undo) (k := 0) (ci := 8) (as := []) (rest := []) dL_law_455 oX9_undo l_RL_57 eX9_undo vX9_undo ⟨Nat.le_of_ble_eq_true rfl, Nat.le_of_ble_eq_true rfl⟩ ⟨rfl, rfl⟩ rfl (fun q hq => by cases hq; rfl) rfl rfl (Nat.le_of_ble_eq_true rfl) hC1 rfl (fun r h1 hp => ?_)
  obtain ⟨w, P2, er, hC2, hk2⟩ := hk r h1 hp
  subst er
  refine y_al2 C dL_law_458 ?_
  refine y_call C (N := mX10_undo) (k := 89) (ci := 9) (as := []) (rest := [z_v s.heap.size (0, w)]) dL_law_459 oX10_undo l_RL_60 eX10_undo vX10_undo ⟨Nat.le_of_ble_eq_true rfl, Nat.le_of_ble_eq_true rfl⟩ ⟨rfl, rfl⟩ rfl (fun q hq => by cases hq; rfl) rfl rfl (y_w1 _ _ _) hC2 rfl (fun r2 h2 hq => ?_)
  obtain ⟨e2, v2⟩ := hk2 r2 h2 hq
  subst e2
  refine y_eq C (tgt := 1082) dL_law_462 (by decide) ?_
  exact kk h2 v2
theorem y_c11 (C : y_At p s m meth c b L xs D ca) (hL : L ≤ 384) (hi : i = nI n) (hn : n + 5 < L) (v : v_N h) (kk : ∀ h2, v_N h2 → y_V p l e s m below meth c b D ca 1082 i [] h2) : y_V p l e s m below meth c b D ca 467 i [] h := by
  obtain ⟨P, hC1, hk⟩ := v_now v (y_rng _)
  refine y_al1 C dL_law_467 ?_
  refine y_arg C (k := 1) hi (by omega) hL rfl dL_law_468 dL_law_469 dL_law_470 dL_law_471 dL_law_472 ?_
  refine y_call C (N := mX9_now) (k := 0) (ci := 8) (as := [(0, (xs (n + 1)).toInt)]) (rest := []) dL_law_473 oX9_now l_RL_61 eX9_now vX9_now ⟨Nat.le_of_ble_eq_true rfl, Nat.le_of_ble_eq_true rfl⟩ ⟨rfl, rfl⟩ rfl (fun q hq => by cases hq; rfl) rfl rfl (Nat.le_of_ble_eq_true rfl) hC1 rfl (fun r h1 hp => ?_)
  obtain ⟨w, P2, er, hC2, hk2⟩ := hk r h1 hp
  subst er
  refine y_al2 C dL_law_476 ?_
  refine y_arg C (k := 1) hi (by omega) hL rfl dL_law_477 dL_law_478 dL_law_479 dL_law_480 dL_law_481 ?_
  refine y_call C (N := mX10_now) (k := 89) (ci := 9) (as := [(0, (xs (n + 1)).toInt)]) (rest := [z_v s.heap.size (0, w)]) dL_law_482 oX10_now l_RL_64 eX10_now vX10_now ⟨Nat.le_of_ble_eq_true rfl, Nat.le_of_ble_eq_true rfl⟩ ⟨rfl, rfl⟩ rfl (fun q hq => by cases hq; rfl) rfl rfl (y_w1 _ _ _) hC2 rfl (fun r2 h2 hq => ?_)
  obtain ⟨e2, v2⟩ := hk2 r2 h2 hq
  subst e2
  refine y_eq C (tgt := 1082) dL_law_485 (by decide) ?_
  exact kk h2 v2
theorem y_c12 (C : y_At p s m meth c b L xs D ca) (hL : L ≤ 384) (hi : i = nI n) (hn : n + 5 < L) (v : v_N h) (kk : ∀ h2, v_N h2 → y_V p l e s m below meth c b D ca 1082 i [] h2) : y_V p l e s m below meth c b D ca 490 i [] h := by
  obtain ⟨P, hC1, hk⟩ := v_light v (y_rng _) (y_rng _) (y_rng _)
  refine y_al1 C dL_law_490 ?_
  refine y_arg C (k := 1) hi (by omega) hL rfl dL_law_491 dL_law_492 dL_law_493 dL_law_494 dL_law_495 ?_
  refine y_arg C (k := 2) hi (by omega) hL rfl dL_law_496 dL_law_497 dL_law_498 dL_law_499 dL_law_500 ?_
  refine y_arg C (k := 3) hi (by omega) hL rfl dL_law_501 dL_law_502 dL_law_503 dL_law_504 dL_law_505 ?_
  refine y_call C (N := mX9_light) (k := 0) (ci := 8) (as := [(0, (xs (n + 1)).toInt), (0, (xs (n + 2)).toInt), (0, (xs (n + 3)).toInt)]) (rest := []) dL_law_506 oX9_light l_RL_65 eX9_light vX9_light ⟨Nat.le_of_ble_eq_true rfl, Nat.le_of_ble_eq_true rfl⟩ ⟨rfl, rfl⟩ rfl (fun q hq => by cases hq; rfl) rfl rfl (Nat.le_of_ble_eq_true rfl) hC1 rfl (fun r h1 hp => ?_)
  obtain ⟨w, P2, er, hC2, hk2⟩ := hk r h1 hp
  subst er
  refine y_al2 C dL_law_509 ?_
  refine y_arg C (k := 1) hi (by omega) hL rfl dL_law_510 dL_law_511 dL_law_512 dL_law_513 dL_law_514 ?_
  refine y_arg C (k := 2) hi (by omega) hL rfl dL_law_515 dL_law_516 dL_law_517 dL_law_518 dL_law_519 ?_
  refine y_arg C (k := 3) hi (by omega) hL rfl dL_law_520 dL_law_521 dL_law_522 dL_law_523 dL_law_524 ?_
  refine y_call C (N := mX10_light) (k := 89) (ci := 9) (as := [(0, (xs (n + 1)).toInt), (0, (xs (n + 2)).toInt), (0, (xs (n + 3)).toInt)]) (rest := [z_v s.heap.size (0, w)]) dL_law_525 oX10_light l_RL_68 eX10_light vX10_light ⟨Nat.le_of_ble_eq_true rfl, Nat.le_of_ble_eq_true rfl⟩ ⟨rfl, rfl⟩ rfl (fun q hq => by cases hq; rfl) rfl rfl (y_w1 _ _ _) hC2 rfl (fun r2 h2 hq => ?_)
  obtain ⟨e2, v2⟩ := hk2 r2 h2 hq
  subst e2
  refine y_eq C (tgt := 1082) dL_law_528 (by decide) ?_
  exact kk h2 v2
theorem y_c13 (C : y_At p s m meth c b L xs D ca) (hL : L ≤ 384) (hi : i = nI n) (hn : n + 5 < L) (v : v_N h) (kk : ∀ h2, v_N h2 → y_V p l e s m below meth c b D ca 1082 i [] h2) : y_V p l e s m below meth c b D ca 533 i [] h := by
  obtain ⟨P, hC1, hk⟩ := v_lit v (y_rng _) (y_rng _) (y_rng _)
  refine y_al1 C dL_law_533 ?_
  refine y_arg C (k := 1) hi (by omega) hL rfl dL_law_534 dL_law_535 dL_law_536 dL_law_537 dL_law_538 ?_
  refine y_arg C (k := 2) hi (by omega) hL rfl dL_law_539 dL_law_540 dL_law_541 dL_law_542 dL_law_543 ?_
  refine y_arg C (k := 3) hi (by omega) hL rfl dL_law_544 dL_law_545 dL_law_546 dL_law_547 dL_law_548 ?_
  refine y_call C (N := mX9_lit) (k := 0) (ci := 8) (as := [(0, (xs (n + 1)).toInt), (0, (xs (n + 2)).toInt), (0, (xs (n + 3)).toInt)]) (rest := []) dL_law_549 oX9_lit l_RL_69 eX9_lit vX9_lit ⟨Nat.le_of_ble_eq_true rfl, Nat.le_of_ble_eq_true rfl⟩ ⟨rfl, rfl⟩ rfl (fun q hq => by cases hq; rfl) rfl rfl (Nat.le_of_ble_eq_true rfl) hC1 rfl (fun r h1 hp => ?_)
  obtain ⟨w, P2, er, hC2, hk2⟩ := hk r h1 hp
  subst er
  refine y_al2 C dL_law_552 ?_
  refine y_arg C (k := 1) hi (by omega) hL rfl dL_law_553 dL_law_554 dL_law_555 dL_law_556 dL_law_557 ?_
  refine y_arg C (k := 2) hi (by omega) hL rfl dL_law_558 dL_law_559 dL_law_560 dL_law_561 dL_law_562 ?_
  refine y_arg C (k := 3) hi (by omega) hL rfl dL_law_563 dL_law_564 dL_law_565 dL_law_566 dL_law_567 ?_
  refine y_call C (N := mX10_lit) (k := 89) (ci := 9) (as := [(0, (xs (n + 1)).toInt), (0, (xs (n + 2)).toInt), (0, (xs (n + 3)).toInt)]) (rest := [z_v s.heap.size (0, w)]) dL_law_568 oX10_lit l_RL_72 eX10_lit vX10_lit ⟨Nat.le_of_ble_eq_true rfl, Nat.le_of_ble_eq_true rfl⟩ ⟨rfl, rfl⟩ rfl (fun q hq => by cases hq; rfl) rfl rfl (y_w1 _ _ _) hC2 rfl (fun r2 h2 hq => ?_)
  obtain ⟨e2, v2⟩ := hk2 r2 h2 hq
  subst e2
  refine y_eq C (tgt := 1082) dL_law_571 (by decide) ?_
  exact kk h2 v2
theorem y_c14 (C : y_At p s m meth c b L xs D ca) (hL : L ≤ 384) (hi : i = nI n) (hn : n + 5 < L) (v : v_N h) (kk : ∀ h2, v_N h2 → y_V p l e s m below meth c b D ca 1082 i [] h2) : y_V p l e s m below meth c b D ca 576 i [] h := by
  obtain ⟨P, hC1, hk⟩ := v_when v (y_rng _) (y_rng _) (y_rng _)
  refine y_al1 C dL_law_576 ?_
  refine y_arg C (k := 1) hi (by omega) hL rfl dL_law_577 dL_law_578 dL_law_579 dL_law_580 dL_law_581 ?_
  refine y_arg C (k := 2) hi (by omega) hL rfl dL_law_582 dL_law_583 dL_law_584 dL_law_585 dL_law_586 ?_
  refine y_arg C (k := 3) hi (by omega) hL rfl dL_law_587 dL_law_588 dL_law_589 dL_law_590 dL_law_591 ?_
  refine y_call C (N := mX9_when) (k := 0) (ci := 8) (as := [(0, (xs (n + 1)).toInt), (0, (xs (n + 2)).toInt), (0, (xs (n + 3)).toInt)]) (rest := []) dL_law_592 oX9_when l_RL_73 eX9_when vX9_when ⟨Nat.le_of_ble_eq_true rfl, Nat.le_of_ble_eq_true rfl⟩ ⟨rfl, rfl⟩ rfl (fun q hq => by cases hq; rfl) rfl rfl (Nat.le_of_ble_eq_true rfl) hC1 rfl (fun r h1 hp => ?_)
  obtain ⟨w, P2, er, hC2, hk2⟩ := hk r h1 hp
  subst er
  refine y_al2 C dL_law_595 ?_
  refine y_arg C (k := 1) hi (by omega) hL rfl dL_law_596 dL_law_597 dL_law_598 dL_law_599 dL_law_600 ?_
  refine y_arg C (k := 2) hi (by omega) hL rfl dL_law_601 dL_law_602 dL_law_603 dL_law_604 dL_law_605 ?_
  refine y_arg C (k := 3) hi (by omega) hL rfl dL_law_606 dL_law_607 dL_law_608 dL_law_609 dL_law_610 ?_
  refine y_call C (N := mX10_when) (k := 89) (ci := 9) (as := [(0, (xs (n + 1)).toInt), (0, (xs (n + 2)).toInt), (0, (xs (n + 3)).toInt)]) (rest := [z_v s.heap.size (0, w)]) dL_law_611 oX10_when l_RL_76 eX10_when vX10_when ⟨Nat.le_of_ble_eq_true rfl, Nat.le_of_ble_eq_true rfl⟩ ⟨rfl, rfl⟩ rfl (fun q hq => by cases hq; rfl) rfl rfl (y_w1 _ _ _) hC2 rfl (fun r2 h2 hq => ?_)
  obtain ⟨e2, v2⟩ := hk2 r2 h2 hq
  subst e2
  refine y_eq C (tgt := 1082) dL_law_614 (by decide) ?_
  exact kk h2 v2
theorem y_c15 (C : y_At p s m meth c b L xs D ca) (hL : L ≤ 384) (hi : i = nI n) (hn : n + 5 < L) (v : v_N h) (kk : ∀ h2, v_N h2 → y_V p l e s m below meth c b D ca 1082 i [] h2) : y_V p l e s m below meth c b D ca 619 i [] h := by
  obtain ⟨P, hC1, hk⟩ := v_mix v (y_rng _) (y_rng _) (y_rng _) (y_rng _) (y_rng _)
  refine y_al1 C dL_law_619 ?_
  refine y_arg C (k := 1) hi (by omega) hL rfl dL_law_620 dL_law_621 dL_law_622 dL_law_623 dL_law_624 ?_
  refine y_arg C (k := 2) hi (by omega) hL rfl dL_law_625 dL_law_626 dL_law_627 dL_law_628 dL_law_629 ?_
  refine y_arg C (k := 3) hi (by omega) hL rfl dL_law_630 dL_law_631 dL_law_632 dL_law_633 dL_law_634 ?_
  refine y_arg C (k := 4) hi (by omega) hL rfl dL_law_635 dL_law_636 dL_law_637 dL_law_638 dL_law_639 ?_
  refine y_arg C (k := 5) hi (by omega) hL rfl dL_law_640 dL_law_641 dL_law_642 dL_law_643 dL_law_644 ?_
  refine y_call C (N := mX9_mix) (k := 0) (ci := 8) (as := [(0, (xs (n + 1)).toInt), (0, (xs (n + 2)).toInt), (0, (xs (n + 3)).toInt), (0, (xs (n + 4)).toInt), (0, (xs (n + 5)).toInt)]) (rest := []) dL_law_645 oX9_mix l_RL_77 eX9_mix vX9_mix ⟨Nat.le_of_ble_eq_true rfl, Nat.le_of_ble_eq_true rfl⟩ ⟨rfl, rfl⟩ rfl (fun q hq => by cases hq; rfl) rfl rfl (Nat.le_of_ble_eq_true rfl) hC1 rfl (fun r h1 hp => ?_)
  obtain ⟨w, P2, er, hC2, hk2⟩ := hk r h1 hp
  subst er
  refine y_al2 C dL_law_648 ?_
  refine y_arg C (k := 1) hi (by omega) hL rfl dL_law_649 dL_law_650 dL_law_651 dL_law_652 dL_law_653 ?_
  refine y_arg C (k := 2) hi (by omega) hL rfl dL_law_654 dL_law_655 dL_law_656 dL_law_657 dL_law_658 ?_
  refine y_arg C (k := 3) hi (by omega) hL rfl dL_law_659 dL_law_660 dL_law_661 dL_law_662 dL_law_663 ?_
  refine y_arg C (k := 4) hi (by omega) hL rfl dL_law_664 dL_law_665 dL_law_666 dL_law_667 dL_law_668 ?_
  refine y_arg C (k := 5) hi (by omega) hL rfl dL_law_669 dL_law_670 dL_law_671 dL_law_672 dL_law_673 ?_
  refine y_call C (N := mX10_mix) (k := 89) (ci := 9) (as := [(0, (xs (n + 1)).toInt), (0, (xs (n + 2)).toInt), (0, (xs (n + 3)).toInt), (0, (xs (n + 4)).toInt), (0, (xs (n + 5)).toInt)]) (rest := [z_v s.heap.size (0, w)]) dL_law_674 oX10_mix l_RL_81 eX10_mix vX10_mix ⟨Nat.le_of_ble_eq_true rfl, Nat.le_of_ble_eq_true rfl⟩ ⟨rfl, rfl⟩ rfl (fun q hq => by cases hq; rfl) rfl rfl (y_w1 _ _ _) hC2 rfl (fun r2 h2 hq => ?_)
  obtain ⟨e2, v2⟩ := hk2 r2 h2 hq
  subst e2
  refine y_eq C (tgt := 1082) dL_law_677 (by decide) ?_
  exact kk h2 v2
theorem y_c16 (C : y_At p s m meth c b L xs D ca) (hL : L ≤ 384) (hi : i = nI n) (hn : n + 5 < L) (v : v_N h) (kk : ∀ h2, v_N h2 → y_V p l e s m below meth c b D ca 1082 i [] h2) : y_V p l e s m below meth c b D ca 682 i [] h := by
  obtain ⟨P, hC1, hk⟩ := v_child v (y_rng _) (y_rng _) (y_rng _) (y_rng _) (y_rng _)
  refine y_al1 C dL_law_682 ?_
  refine y_arg C (k := 1) hi (by omega) hL rfl dL_law_683 dL_law_684 dL_law_685 dL_law_686 dL_law_687 ?_
  refine y_arg C (k := 2) hi (by omega) hL rfl dL_law_688 dL_law_689 dL_law_690 dL_law_691 dL_law_692 ?_
  refine y_arg C (k := 3) hi (by omega) hL rfl dL_law_693 dL_law_694 dL_law_695 dL_law_696 dL_law_697 ?_
  refine y_arg C (k := 4) hi (by omega) hL rfl dL_law_698 dL_law_699 dL_law_700 dL_law_701 dL_law_702 ?_
  refine y_arg C (k := 5) hi (by omega) hL rfl dL_law_703 dL_law_704 dL_law_705 dL_law_706 dL_law_707 ?_
  refine y_call C (N := mX9_child) (k := 0) (ci := 8) (as := [(0, (xs (n + 1)).toInt), (0, (xs (n + 2)).toInt), (0, (xs (n + 3)).toInt), (0, (xs (n + 4)).toInt), (0, (xs (n + 5)).toInt)]) (rest := []) dL_law_708 oX9_child l_RL_82 eX9_child vX9_child ⟨Nat.le_of_ble_eq_true rfl, Nat.le_of_ble_eq_true rfl⟩ ⟨rfl, rfl⟩ rfl (fun q hq => by cases hq; rfl) rfl rfl (Nat.le_of_ble_eq_true rfl) hC1 rfl (fun r h1 hp => ?_)
  obtain ⟨w, P2, er, hC2, hk2⟩ := hk r h1 hp
  subst er
  refine y_al2 C dL_law_711 ?_
  refine y_arg C (k := 1) hi (by omega) hL rfl dL_law_712 dL_law_713 dL_law_714 dL_law_715 dL_law_716 ?_
  refine y_arg C (k := 2) hi (by omega) hL rfl dL_law_717 dL_law_718 dL_law_719 dL_law_720 dL_law_721 ?_
  refine y_arg C (k := 3) hi (by omega) hL rfl dL_law_722 dL_law_723 dL_law_724 dL_law_725 dL_law_726 ?_
  refine y_arg C (k := 4) hi (by omega) hL rfl dL_law_727 dL_law_728 dL_law_729 dL_law_730 dL_law_731 ?_
  refine y_arg C (k := 5) hi (by omega) hL rfl dL_law_732 dL_law_733 dL_law_734 dL_law_735 dL_law_736 ?_
  refine y_call C (N := mX10_child) (k := 89) (ci := 9) (as := [(0, (xs (n + 1)).toInt), (0, (xs (n + 2)).toInt), (0, (xs (n + 3)).toInt), (0, (xs (n + 4)).toInt), (0, (xs (n + 5)).toInt)]) (rest := [z_v s.heap.size (0, w)]) dL_law_737 oX10_child l_RL_85 eX10_child vX10_child ⟨Nat.le_of_ble_eq_true rfl, Nat.le_of_ble_eq_true rfl⟩ ⟨rfl, rfl⟩ rfl (fun q hq => by cases hq; rfl) rfl rfl (y_w1 _ _ _) hC2 rfl (fun r2 h2 hq => ?_)
  obtain ⟨e2, v2⟩ := hk2 r2 h2 hq
  subst e2
  refine y_eq C (tgt := 1082) dL_law_740 (by decide) ?_
  exact kk h2 v2
theorem y_c17 (C : y_At p s m meth c b L xs D ca) (hL : L ≤ 384) (hi : i = nI n) (hn : n + 5 < L) (v : v_N h) (kk : ∀ h2, v_N h2 → y_V p l e s m below meth c b D ca 1082 i [] h2) : y_V p l e s m below meth c b D ca 745 i [] h := by
  obtain ⟨P, hC1, hk⟩ := v_paint v (y_rng _)
  refine y_al1 C dL_law_745 ?_
  refine y_arg C (k := 1) hi (by omega) hL rfl dL_law_746 dL_law_747 dL_law_748 dL_law_749 dL_law_750 ?_
  refine y_call C (N := mX9_paint) (k := 0) (ci := 8) (as := [(0, (xs (n + 1)).toInt)]) (rest := []) dL_law_751 oX9_paint l_RL_86 eX9_paint vX9_paint ⟨Nat.le_of_ble_eq_true rfl, Nat.le_of_ble_eq_true rfl⟩ ⟨rfl, rfl⟩ rfl (fun q hq => by cases hq; rfl) rfl rfl (Nat.le_of_ble_eq_true rfl) hC1 rfl (fun r h1 hp => ?_)
  obtain ⟨w, P2, er, hC2, hk2⟩ := hk r h1 hp
  subst er
  refine y_al2 C dL_law_754 ?_
  refine y_arg C (k := 1) hi (by omega) hL rfl dL_law_755 dL_law_756 dL_law_757 dL_law_758 dL_law_759 ?_
  refine y_call C (N := mX10_paint) (k := 89) (ci := 9) (as := [(0, (xs (n + 1)).toInt)]) (rest := [z_v s.heap.size (0, w)]) dL_law_760 oX10_paint l_RL_89 eX10_paint vX10_paint ⟨Nat.le_of_ble_eq_true rfl, Nat.le_of_ble_eq_true rfl⟩ ⟨rfl, rfl⟩ rfl (fun q hq => by cases hq; rfl) rfl rfl (y_w1 _ _ _) hC2 rfl (fun r2 h2 hq => ?_)
  obtain ⟨e2, v2⟩ := hk2 r2 h2 hq
  subst e2
  refine y_eq C (tgt := 1082) dL_law_763 (by decide) ?_
  exact kk h2 v2
theorem y_c18 (C : y_At p s m meth c b L xs D ca) (hL : L ≤ 384) (hi : i = nI n) (hn : n + 5 < L) (v : v_N h) (kk : ∀ h2, v_N h2 → y_V p l e s m below meth c b D ca 1082 i [] h2) : y_V p l e s m below meth c b D ca 768 i [] h := by
  obtain ⟨P, hC1, hk⟩ := v_hail v (y_rng _) (y_rng _) (y_rng _) (y_rng _) (y_rng _)
  refine y_al1 C dL_law_768 ?_
  refine y_arg C (k := 1) hi (by omega) hL rfl dL_law_769 dL_law_770 dL_law_771 dL_law_772 dL_law_773 ?_
  refine y_arg C (k := 2) hi (by omega) hL rfl dL_law_774 dL_law_775 dL_law_776 dL_law_777 dL_law_778 ?_
  refine y_arg C (k := 3) hi (by omega) hL rfl dL_law_779 dL_law_780 dL_law_781 dL_law_782 dL_law_783 ?_
  refine y_arg C (k := 4) hi (by omega) hL rfl dL_law_784 dL_law_785 dL_law_786 dL_law_787 dL_law_788 ?_
  refine y_arg C (k := 5) hi (by omega) hL rfl dL_law_789 dL_law_790 dL_law_791 dL_law_792 dL_law_793 ?_
  refine y_call C (N := mX9_hail) (k := 0) (ci := 8) (as := [(0, (xs (n + 1)).toInt), (0, (xs (n + 2)).toInt), (0, (xs (n + 3)).toInt), (0, (xs (n + 4)).toInt), (0, (xs (n + 5)).toInt)]) (rest := []) dL_law_794 oX9_hail l_RL_90 eX9_hail vX9_hail ⟨Nat.le_of_ble_eq_true rfl, Nat.le_of_ble_eq_true rfl⟩ ⟨rfl, rfl⟩ rfl (fun q hq => by cases hq; rfl) rfl rfl (Nat.le_of_ble_eq_true rfl) hC1 rfl (fun r h1 hp => ?_)
  obtain ⟨w, P2, er, hC2, hk2⟩ := hk r h1 hp
  subst er
  refine y_al2 C dL_law_797 ?_
  refine y_arg C (k := 1) hi (by omega) hL rfl dL_law_798 dL_law_799 dL_law_800 dL_law_801 dL_law_802 ?_
  refine y_arg C (k := 2) hi (by omega) hL rfl dL_law_803 dL_law_804 dL_law_805 dL_law_806 dL_law_807 ?_
  refine y_arg C (k := 3) hi (by omega) hL rfl dL_law_808 dL_law_809 dL_law_810 dL_law_811 dL_law_812 ?_
  refine y_arg C (k := 4) hi (by omega) hL rfl dL_law_813 dL_law_814 dL_law_815 dL_law_816 dL_law_817 ?_
  refine y_arg C (k := 5) hi (by omega) hL rfl dL_law_818 dL_law_819 dL_law_820 dL_law_821 dL_law_822 ?_
  refine y_call C (N := mX10_hail) (k := 89) (ci := 9) (as := [(0, (xs (n + 1)).toInt), (0, (xs (n + 2)).toInt), (0, (xs (n + 3)).toInt), (0, (xs (n + 4)).toInt), (0, (xs (n + 5)).toInt)]) (rest := [z_v s.heap.size (0, w)]) dL_law_823 oX10_hail l_RL_93 eX10_hail vX10_hail ⟨Nat.le_of_ble_eq_true rfl, Nat.le_of_ble_eq_true rfl⟩ ⟨rfl, rfl⟩ rfl (fun q hq => by cases hq; rfl) rfl rfl (y_w1 _ _ _) hC2 rfl (fun r2 h2 hq => ?_)
  obtain ⟨e2, v2⟩ := hk2 r2 h2 hq
  subst e2
  refine y_eq C (tgt := 1082) dL_law_826 (by decide) ?_
  exact kk h2 v2
theorem y_c19 (C : y_At p s m meth c b L xs D ca) (hL : L ≤ 384) (hi : i = nI n) (hn : n + 5 < L) (v : v_N h) (kk : ∀ h2, v_N h2 → y_V p l e s m below meth c b D ca 1082 i [] h2) : y_V p l e s m below meth c b D ca 831 i [] h := by
  obtain ⟨P, hC1, hk⟩ := v_saw v (y_rng _) (y_rng _) (y_rng _) (y_rng _)
  refine y_al1 C dL_law_831 ?_
  refine y_arg C (k := 1) hi (by omega) hL rfl dL_law_832 dL_law_833 dL_law_834 dL_law_835 dL_law_836 ?_
  refine y_arg C (k := 2) hi (by omega) hL rfl dL_law_837 dL_law_838 dL_law_839 dL_law_840 dL_law_841 ?_
  refine y_arg C (k := 3) hi (by omega) hL rfl dL_law_842 dL_law_843 dL_law_844 dL_law_845 dL_law_846 ?_
  refine y_arg C (k := 4) hi (by omega) hL rfl dL_law_847 dL_law_848 dL_law_849 dL_law_850 dL_law_851 ?_
  refine y_call C (N := mX9_saw) (k := 0) (ci := 8) (as := [(0, (xs (n + 1)).toInt), (0, (xs (n + 2)).toInt), (0, (xs (n + 3)).toInt), (0, (xs (n + 4)).toInt)]) (rest := []) dL_law_852 oX9_saw l_RL_94 eX9_saw vX9_saw ⟨Nat.le_of_ble_eq_true rfl, Nat.le_of_ble_eq_true rfl⟩ ⟨rfl, rfl⟩ rfl (fun q hq => by cases hq; rfl) rfl rfl (Nat.le_of_ble_eq_true rfl) hC1 rfl (fun r h1 hp => ?_)
  obtain ⟨w, P2, er, hC2, hk2⟩ := hk r h1 hp
  subst er
  refine y_al2 C dL_law_855 ?_
  refine y_arg C (k := 1) hi (by omega) hL rfl dL_law_856 dL_law_857 dL_law_858 dL_law_859 dL_law_860 ?_
  refine y_arg C (k := 2) hi (by omega) hL rfl dL_law_861 dL_law_862 dL_law_863 dL_law_864 dL_law_865 ?_
  refine y_arg C (k := 3) hi (by omega) hL rfl dL_law_866 dL_law_867 dL_law_868 dL_law_869 dL_law_870 ?_
  refine y_arg C (k := 4) hi (by omega) hL rfl dL_law_871 dL_law_872 dL_law_873 dL_law_874 dL_law_875 ?_
  refine y_call C (N := mX10_saw) (k := 89) (ci := 9) (as := [(0, (xs (n + 1)).toInt), (0, (xs (n + 2)).toInt), (0, (xs (n + 3)).toInt), (0, (xs (n + 4)).toInt)]) (rest := [z_v s.heap.size (0, w)]) dL_law_876 oX10_saw l_RL_98 eX10_saw vX10_saw ⟨Nat.le_of_ble_eq_true rfl, Nat.le_of_ble_eq_true rfl⟩ ⟨rfl, rfl⟩ rfl (fun q hq => by cases hq; rfl) rfl rfl (y_w1 _ _ _) hC2 rfl (fun r2 h2 hq => ?_)
  obtain ⟨e2, v2⟩ := hk2 r2 h2 hq
  subst e2
  refine y_eq C (tgt := 1082) dL_law_879 (by decide) ?_
  exact kk h2 v2
theorem y_c20 (C : y_At p s m meth c b L xs D ca) (hL : L ≤ 384) (hi : i = nI n) (hn : n + 5 < L) (v : v_N h) (kk : ∀ h2, v_N h2 → y_V p l e s m below meth c b D ca 1082 i [] h2) : y_V p l e s m below meth c b D ca 884 i [] h := by
  obtain ⟨P, hC1, hk⟩ := v_forget v
  refine y_al1 C dL_law_884 ?_
  refine y_call C (N := mX9_forget) (k := 0) (ci := 8) (as := []) (rest := []) dL_law_885 oX9_forget l_RL_99 eX9_forget vX9_forget ⟨Nat.le_of_ble_eq_true rfl, Nat.le_of_ble_eq_true rfl⟩ ⟨rfl, rfl⟩ rfl (fun q hq => by cases hq; rfl) rfl rfl (Nat.le_of_ble_eq_true rfl) hC1 rfl (fun r h1 hp => ?_)
  obtain ⟨w, P2, er, hC2, hk2⟩ := hk r h1 hp
  subst er
  refine y_al2 C dL_law_888 ?_
  refine y_call C (N := mX10_forget) (k := 89) (ci := 9) (as := []) (rest := [z_v s.heap.size (0, w)]) dL_law_889 oX10_forget l_RL_102 eX10_forget vX10_forget ⟨Nat.le_of_ble_eq_true rfl, Nat.le_of_ble_eq_true rfl⟩ ⟨rfl, rfl⟩ rfl (fun q hq => by cases hq; rfl) rfl rfl (y_w1 _ _ _) hC2 rfl (fun r2 h2 hq => ?_)
  obtain ⟨e2, v2⟩ := hk2 r2 h2 hq
  subst e2
  refine y_eq C (tgt := 1082) dL_law_892 (by decide) ?_
  exact kk h2 v2
theorem y_c21 (C : y_At p s m meth c b L xs D ca) (hL : L ≤ 384) (hi : i = nI n) (hn : n + 5 < L) (v : v_N h) (kk : ∀ h2, v_N h2 → y_V p l e s m below meth c b D ca 1082 i [] h2) : y_V p l e s m below meth c b D ca 897 i [] h := by
  obtain ⟨P, hC1, hk⟩ := v_suspects v
  refine y_al1 C dL_law_897 ?_
  refine y_call C (N := mX9_suspects) (k := 0) (ci := 8) (as := []) (rest := []) dL_law_898 oX9_suspects l_RL_103 eX9_suspects vX9_suspects ⟨Nat.le_of_ble_eq_true rfl, Nat.le_of_ble_eq_true rfl⟩ ⟨rfl, rfl⟩ rfl (fun q hq => by cases hq; rfl) rfl rfl (Nat.le_of_ble_eq_true rfl) hC1 rfl (fun r h1 hp => ?_)
  obtain ⟨w, P2, er, hC2, hk2⟩ := hk r h1 hp
  subst er
  refine y_al2 C dL_law_901 ?_
  refine y_call C (N := mX10_suspects) (k := 89) (ci := 9) (as := []) (rest := [z_v s.heap.size (0, w)]) dL_law_902 oX10_suspects l_RL_106 eX10_suspects vX10_suspects ⟨Nat.le_of_ble_eq_true rfl, Nat.le_of_ble_eq_true rfl⟩ ⟨rfl, rfl⟩ rfl (fun q hq => by cases hq; rfl) rfl rfl (y_w1 _ _ _) hC2 rfl (fun r2 h2 hq => ?_)
  obtain ⟨e2, v2⟩ := hk2 r2 h2 hq
  subst e2
  refine y_eq C (tgt := 1082) dL_law_905 (by decide) ?_
  exact kk h2 v2
theorem y_c22 (C : y_At p s m meth c b L xs D ca) (hL : L ≤ 384) (hi : i = nI n) (hn : n + 5 < L) (v : v_N h) (kk : ∀ h2, v_N h2 → y_V p l e s m below meth c b D ca 1082 i [] h2) : y_V p l e s m below meth c b D ca 910 i [] h := by
  obtain ⟨P, hC1, hk⟩ := v_glasses v (y_rng _) (y_rng _)
  refine y_al1 C dL_law_910 ?_
  refine y_arg C (k := 1) hi (by omega) hL rfl dL_law_911 dL_law_912 dL_law_913 dL_law_914 dL_law_915 ?_
  refine y_arg C (k := 2) hi (by omega) hL rfl dL_law_916 dL_law_917 dL_law_918 dL_law_919 dL_law_920 ?_
  refine y_call C (N := mX9_glasses) (k := 0) (ci := 8) (as := [(0, (xs (n + 1)).toInt), (0, (xs (n + 2)).toInt)]) (rest := []) dL_law_921 oX9_glasses l_RL_107 eX9_glasses vX9_glasses ⟨Nat.le_of_ble_eq_true rfl, Nat.le_of_ble_eq_true rfl⟩ ⟨rfl, rfl⟩ rfl (fun q hq => by cases hq; rfl) rfl rfl (Nat.le_of_ble_eq_true rfl) hC1 rfl (fun r h1 hp => ?_)
  obtain ⟨w, P2, er, hC2, hk2⟩ := hk r h1 hp
  subst er
  refine y_al2 C dL_law_924 ?_
  refine y_arg C (k := 1) hi (by omega) hL rfl dL_law_925 dL_law_926 dL_law_927 dL_law_928 dL_law_929 ?_
  refine y_arg C (k := 2) hi (by omega) hL rfl dL_law_930 dL_law_931 dL_law_932 dL_law_933 dL_law_934 ?_
  refine y_call C (N := mX10_glasses) (k := 89) (ci := 9) (as := [(0, (xs (n + 1)).toInt), (0, (xs (n + 2)).toInt)]) (rest := [z_v s.heap.size (0, w)]) dL_law_935 oX10_glasses l_RL_110 eX10_glasses vX10_glasses ⟨Nat.le_of_ble_eq_true rfl, Nat.le_of_ble_eq_true rfl⟩ ⟨rfl, rfl⟩ rfl (fun q hq => by cases hq; rfl) rfl rfl (y_w1 _ _ _) hC2 rfl (fun r2 h2 hq => ?_)
  obtain ⟨e2, v2⟩ := hk2 r2 h2 hq
  subst e2
  refine y_eq C (tgt := 1082) dL_law_938 (by decide) ?_
  exact kk h2 v2
theorem y_c23 (C : y_At p s m meth c b L xs D ca) (hL : L ≤ 384) (hi : i = nI n) (hn : n + 5 < L) (v : v_N h) (kk : ∀ h2, v_N h2 → y_V p l e s m below meth c b D ca 1082 i [] h2) : y_V p l e s m below meth c b D ca 943 i [] h := by
  obtain ⟨P, hC1, hk⟩ := v_look v
  refine y_al1 C dL_law_943 ?_
  refine y_call C (N := mX9_look) (k := 0) (ci := 8) (as := []) (rest := []) dL_law_944 oX9_look l_RL_111 eX9_look vX9_look ⟨Nat.le_of_ble_eq_true rfl, Nat.le_of_ble_eq_true rfl⟩ ⟨rfl, rfl⟩ rfl (fun q hq => by cases hq; rfl) rfl rfl (Nat.le_of_ble_eq_true rfl) hC1 rfl (fun r h1 hp => ?_)
  obtain ⟨w, P2, er, hC2, hk2⟩ := hk r h1 hp
  subst er
  refine y_al2 C dL_law_947 ?_
  refine y_call C (N := mX10_look) (k := 89) (ci := 9) (as := []) (rest := [z_v s.heap.size (0, w)]) dL_law_948 oX10_look l_RL_114 eX10_look vX10_look ⟨Nat.le_of_ble_eq_true rfl, Nat.le_of_ble_eq_true rfl⟩ ⟨rfl, rfl⟩ rfl (fun q hq => by cases hq; rfl) rfl rfl (y_w1 _ _ _) hC2 rfl (fun r2 h2 hq => ?_)
  obtain ⟨e2, v2⟩ := hk2 r2 h2 hq
  subst e2
  refine y_eq C (tgt := 1082) dL_law_951 (by decide) ?_
  exact kk h2 v2
theorem y_c24 (C : y_At p s m meth c b L xs D ca) (hL : L ≤ 384) (hi : i = nI n) (hn : n + 5 < L) (v : v_N h) (kk : ∀ h2, v_N h2 → y_V p l e s m below meth c b D ca 1082 i [] h2) : y_V p l e s m below meth c b D ca 956 i [] h := by
  obtain ⟨P, hC1, hk⟩ := v_mark v (y_rng _) (y_rng _) (y_rng _)
  refine y_al1 C dL_law_956 ?_
  refine y_arg C (k := 1) hi (by omega) hL rfl dL_law_957 dL_law_958 dL_law_959 dL_law_960 dL_law_961 ?_
  refine y_arg C (k := 2) hi (by omega) hL rfl dL_law_962 dL_law_963 dL_law_964 dL_law_965 dL_law_966 ?_
  refine y_arg C (k := 3) hi (by omega) hL rfl dL_law_967 dL_law_968 dL_law_969 dL_law_970 dL_law_971 ?_
  refine y_call C (N := mX9_mark) (k := 0) (ci := 8) (as := [(0, (xs (n + 1)).toInt), (0, (xs (n + 2)).toInt), (0, (xs (n + 3)).toInt)]) (rest := []) dL_law_972 oX9_mark l_RL_115 eX9_mark vX9_mark ⟨Nat.le_of_ble_eq_true rfl, Nat.le_of_ble_eq_true rfl⟩ ⟨rfl, rfl⟩ rfl (fun q hq => by cases hq; rfl) rfl rfl (Nat.le_of_ble_eq_true rfl) hC1 rfl (fun r h1 hp => ?_)
  obtain ⟨w, P2, er, hC2, hk2⟩ := hk r h1 hp
  subst er
  refine y_al2 C dL_law_975 ?_
  refine y_arg C (k := 1) hi (by omega) hL rfl dL_law_976 dL_law_977 dL_law_978 dL_law_979 dL_law_980 ?_
  refine y_arg C (k := 2) hi (by omega) hL rfl dL_law_981 dL_law_982 dL_law_983 dL_law_984 dL_law_985 ?_
  refine y_arg C (k := 3) hi (by omega) hL rfl dL_law_986 dL_law_987 dL_law_988 dL_law_989 dL_law_990 ?_
  refine y_call C (N := mX10_mark) (k := 89) (ci := 9) (as := [(0, (xs (n + 1)).toInt), (0, (xs (n + 2)).toInt), (0, (xs (n + 3)).toInt)]) (rest := [z_v s.heap.size (0, w)]) dL_law_991 oX10_mark l_RL_118 eX10_mark vX10_mark ⟨Nat.le_of_ble_eq_true rfl, Nat.le_of_ble_eq_true rfl⟩ ⟨rfl, rfl⟩ rfl (fun q hq => by cases hq; rfl) rfl rfl (y_w1 _ _ _) hC2 rfl (fun r2 h2 hq => ?_)
  obtain ⟨e2, v2⟩ := hk2 r2 h2 hq
  subst e2
  refine y_eq C (tgt := 1082) dL_law_994 (by decide) ?_
  exact kk h2 v2
theorem y_c25 (C : y_At p s m meth c b L xs D ca) (hL : L ≤ 384) (hi : i = nI n) (hn : n + 5 < L) (v : v_N h) (kk : ∀ h2, v_N h2 → y_V p l e s m below meth c b D ca 1082 i [] h2) : y_V p l e s m below meth c b D ca 999 i [] h := by
  obtain ⟨P, hC1, hk⟩ := v_keep v (y_rng _)
  refine y_al1 C dL_law_999 ?_
  refine y_arg C (k := 1) hi (by omega) hL rfl dL_law_1000 dL_law_1001 dL_law_1002 dL_law_1003 dL_law_1004 ?_
  refine y_call C (N := mX9_keep) (k := 0) (ci := 8) (as := [(0, (xs (n + 1)).toInt)]) (rest := []) dL_law_1005 oX9_keep l_RL_119 eX9_keep vX9_keep ⟨Nat.le_of_ble_eq_true rfl, Nat.le_of_ble_eq_true rfl⟩ ⟨rfl, rfl⟩ rfl (fun q hq => by cases hq; rfl) rfl rfl (Nat.le_of_ble_eq_true rfl) hC1 rfl (fun r h1 hp => ?_)
  obtain ⟨w, P2, er, hC2, hk2⟩ := hk r h1 hp
  subst er
  refine y_al2 C dL_law_1008 ?_
  refine y_arg C (k := 1) hi (by omega) hL rfl dL_law_1009 dL_law_1010 dL_law_1011 dL_law_1012 dL_law_1013 ?_
  refine y_call C (N := mX10_keep) (k := 89) (ci := 9) (as := [(0, (xs (n + 1)).toInt)]) (rest := [z_v s.heap.size (0, w)]) dL_law_1014 oX10_keep l_RL_122 eX10_keep vX10_keep ⟨Nat.le_of_ble_eq_true rfl, Nat.le_of_ble_eq_true rfl⟩ ⟨rfl, rfl⟩ rfl (fun q hq => by cases hq; rfl) rfl rfl (y_w1 _ _ _) hC2 rfl (fun r2 h2 hq => ?_)
  obtain ⟨e2, v2⟩ := hk2 r2 h2 hq
  subst e2
  refine y_eq C (tgt := 1082) dL_law_1017 (by decide) ?_
  exact kk h2 v2
theorem y_c26 (C : y_At p s m meth c b L xs D ca) (hL : L ≤ 384) (hi : i = nI n) (hn : n + 5 < L) (v : v_N h) (kk : ∀ h2, v_N h2 → y_V p l e s m below meth c b D ca 1082 i [] h2) : y_V p l e s m below meth c b D ca 1022 i [] h := by
  obtain ⟨P, hC1, hk⟩ := v_back v (y_rng _)
  refine y_al1 C dL_law_1022 ?_
  refine y_arg C (k := 1) hi (by omega) hL rfl dL_law_1023 dL_law_1024 dL_law_1025 dL_law_1026 dL_law_1027 ?_
  refine y_call C (N := mX9_back) (k := 0) (ci := 8) (as := [(0, (xs (n + 1)).toInt)]) (rest := []) dL_law_1028 oX9_back l_RL_123 eX9_back vX9_back ⟨Nat.le_of_ble_eq_true rfl, Nat.le_of_ble_eq_true rfl⟩ ⟨rfl, rfl⟩ rfl (fun q hq => by cases hq; rfl) rfl rfl (Nat.le_of_ble_eq_true rfl) hC1 rfl (fun r h1 hp => ?_)
  obtain ⟨w, P2, er, hC2, hk2⟩ := hk r h1 hp
  subst er
  refine y_al2 C dL_law_1031 ?_
  refine y_arg C (k := 1) hi (by omega) hL rfl dL_law_1032 dL_law_1033 dL_law_1034 dL_law_1035 dL_law_1036 ?_
  refine y_call C (N := mX10_back) (k := 89) (ci := 9) (as := [(0, (xs (n + 1)).toInt)]) (rest := [z_v s.heap.size (0, w)]) dL_law_1037 oX10_back l_RL_126 eX10_back vX10_back ⟨Nat.le_of_ble_eq_true rfl, Nat.le_of_ble_eq_true rfl⟩ ⟨rfl, rfl⟩ rfl (fun q hq => by cases hq; rfl) rfl rfl (y_w1 _ _ _) hC2 rfl (fun r2 h2 hq => ?_)
  obtain ⟨e2, v2⟩ := hk2 r2 h2 hq
  subst e2
  refine y_eq C (tgt := 1082) dL_law_1040 (by decide) ?_
  exact kk h2 v2
theorem y_c27 (C : y_At p s m meth c b L xs D ca) (hL : L ≤ 384) (hi : i = nI n) (hn : n + 5 < L) (v : v_N h) (kk : ∀ h2, v_N h2 → y_V p l e s m below meth c b D ca 1082 i [] h2) : y_V p l e s m below meth c b D ca 1045 i [] h := by
  obtain ⟨P, hC1, hk⟩ := v_count v (y_rng _)
  refine y_al1 C dL_law_1045 ?_
  refine y_arg C (k := 1) hi (by omega) hL rfl dL_law_1046 dL_law_1047 dL_law_1048 dL_law_1049 dL_law_1050 ?_
  refine y_call C (N := mX9_count) (k := 0) (ci := 8) (as := [(0, (xs (n + 1)).toInt)]) (rest := []) dL_law_1051 oX9_count l_RL_127 eX9_count vX9_count ⟨Nat.le_of_ble_eq_true rfl, Nat.le_of_ble_eq_true rfl⟩ ⟨rfl, rfl⟩ rfl (fun q hq => by cases hq; rfl) rfl rfl (Nat.le_of_ble_eq_true rfl) hC1 rfl (fun r h1 hp => ?_)
  obtain ⟨w, P2, er, hC2, hk2⟩ := hk r h1 hp
  subst er
  refine y_al2 C dL_law_1054 ?_
  refine y_arg C (k := 1) hi (by omega) hL rfl dL_law_1055 dL_law_1056 dL_law_1057 dL_law_1058 dL_law_1059 ?_
  refine y_call C (N := mX10_count) (k := 89) (ci := 9) (as := [(0, (xs (n + 1)).toInt)]) (rest := [z_v s.heap.size (0, w)]) dL_law_1060 oX10_count l_RL_130 eX10_count vX10_count ⟨Nat.le_of_ble_eq_true rfl, Nat.le_of_ble_eq_true rfl⟩ ⟨rfl, rfl⟩ rfl (fun q hq => by cases hq; rfl) rfl rfl (y_w1 _ _ _) hC2 rfl (fun r2 h2 hq => ?_)
  obtain ⟨e2, v2⟩ := hk2 r2 h2 hq
  subst e2
  refine y_eq C (tgt := 1082) dL_law_1063 (by decide) ?_
  exact kk h2 v2
theorem y_c28 (C : y_At p s m meth c b L xs D ca) (hL : L ≤ 384) (hi : i = nI n) (hn : n + 5 < L) (v : v_N h) (kk : ∀ h2, v_N h2 → y_V p l e s m below meth c b D ca 1082 i [] h2) : y_V p l e s m below meth c b D ca 1068 i [] h := by
  obtain ⟨P, hC1, hk⟩ := v_trace v
  refine y_al1 C dL_law_1068 ?_
  refine y_call C (N := mX9_trace) (k := 0) (ci := 8) (as := []) (rest := []) dL_law_1069 oX9_trace l_RL_131 eX9_trace vX9_trace ⟨Nat.le_of_ble_eq_true rfl, Nat.le_of_ble_eq_true rfl⟩ ⟨rfl, rfl⟩ rfl (fun q hq => by cases hq; rfl) rfl rfl (Nat.le_of_ble_eq_true rfl) hC1 rfl (fun r h1 hp => ?_)
  obtain ⟨w, P2, er, hC2, hk2⟩ := hk r h1 hp
  subst er
  refine y_al2 C dL_law_1072 ?_
  refine y_call C (N := mX10_trace) (k := 89) (ci := 9) (as := []) (rest := [z_v s.heap.size (1, w)]) dL_law_1073 oX10_trace l_RL_135 eX10_trace vX10_trace ⟨Nat.le_of_ble_eq_true rfl, Nat.le_of_ble_eq_true rfl⟩ ⟨rfl, rfl⟩ rfl (fun q hq => by cases hq; rfl) rfl rfl (y_w1 _ _ _) hC2 rfl (fun r2 h2 hq => ?_)
  obtain ⟨e2, v2⟩ := hk2 r2 h2 hq
  subst e2
  refine y_leq C (tgt := 1082) dL_law_1076 dL_law_1077 (by decide) ?_
  exact kk h2 v2
end LAW
