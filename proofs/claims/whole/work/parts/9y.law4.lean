/-! the law's twenty kinds of call (wip/tools/genlaw.py) -/
theorem ic_3 {x k : Int} (h : 0 ≤ x ∧ x ≤ k) (hk : k ≤ 3) : 0 ≤ x ∧ x ≤ 3 := ⟨h.1, Int.le_trans h.2 hk⟩
theorem ic_in {x k : Int} (h : 0 ≤ x ∧ x ≤ k) (hk : k ≤ 3) : InR x := ⟨by omega, by omega⟩
section LAWK
variable {E : EV} {p : Program} {l : Launch} {e : Env} {R : Room} {s : State} {m : MethodId} {args : Array Value} {below : List Frame} {meth : Method} {c : Code} {mc ms : Nat} {ret : Option FieldType} {Q : State → Prop} {G : GT} {kc ks kc0 ks0 : Nat} {bS LS : Nat} {xs : Nat → Int32} {i n : Int} {B : Nat → Nat} {o out : Nat} {b5 b6 : Option Value}
theorem XW_room {G : GT} {pc : Nat} {L : List (Option Value)} {st : List Value} (h1 : kc0 ≤ kc) (h2 : ks0 ≤ ks) (k : XW E p l e R s m args below meth c 7 mc ms Q G kc0 ks0 pc L st) : XW E p l e R s m args below meth c 7 mc ms Q G kc ks pc L st := fun H locs cells slots ls a1 a2 a3 a4 a5 => k H locs cells slots ls a1 a2 a3 (by omega) (by omega)
set_option maxHeartbeats 2000000 in
set_option maxRecDepth 100000 in
theorem lw_host (C : CX E p R s m args meth c cL_law 7 RL mc ms ret) (hRm : 12 ≤ R.frames ∧ 400 ≤ R.locals) (hX : va_X bS LS xs s s.heap) (hbl : bS < s.heap.size) (hE : s.heap.size ≤ E.2.2.1) (hi : 0 ≤ i ∧ i + 8 ≤ LS ∧ LS ≤ 4096) (h : rkLw G B o out n) (hn : 0 ≤ n ∧ n ≤ 600) (hl : l.stackTraces = false) (hkc : kc0 + 71 ≤ kc ∧ ks0 + 10086 ≤ ks)
    (k : ∀ (G' : GT) (a5 a6 : Option Value), rkLw G' B o out (n + 1) → XW E p l e R s m args below meth c 7 mc ms Q G' kc0 ks0 1519 [some (.ref bS), some (.ref (B 0)), some (.ref o), some (.ref out), some (.int (i32 i)), a5, a6] []) : XW E p l e R s m args below meth c 7 mc ms Q G kc ks 136 [some (.ref bS), some (.ref (B 0)), some (.ref o), some (.ref out), some (.int (i32 i)), b5, b6] [] := by
  obtain ⟨hM, hK, hZ, hP, hI⟩ := h
  have h : rkLw G B o out n := ⟨hM, hK, hZ, hP, hI⟩
  obtain ⟨iH, iA, iAd, iHl, iP, iS, ir, iU⟩ := hZ.1.2.2.2.2
  have hT : gR G 0 0 ≤ 900000000 := by have := hI.2.2.2.2; omega
  have h53 : gR G 53 0 ≤ 240 := by have a1 := hI.1.2.2.2.2.2.2.1; have a2 := hI.2.1.1; omega
  have kx : gK G (B 0) = 14 := hZ.1.1.1.1
  refine x_aload_n 137 C dL_law_136 rfl rfl ?_
  refine x_arg 143 1 C hX hbl hE hi (by decide) dL_law_137 dL_law_138 dL_law_140 dL_law_141 dL_law_142 rfl rfl rfl ?_
  refine x_arg 149 2 C hX hbl hE hi (by decide) dL_law_143 dL_law_144 dL_law_146 dL_law_147 dL_law_148 rfl rfl rfl ?_
  refine x_arg 155 3 C hX hbl hE hi (by decide) dL_law_149 dL_law_150 dL_law_152 dL_law_153 dL_law_154 rfl rfl rfl ?_
  refine x_flag 163 C dL_law_155 dL_law_158 dL_law_159 dL_law_162 rfl (lwI xs i 3) ?_
  refine x_aload_n 164 C dL_law_163 rfl rfl ?_
  have hlf := lf_host (a := (lwX xs i 1)) (w := (lwX xs i 2)) hZ hP hI
  refine x_callSH (As := [_, _, _, _, _]) 167 kc0 ks0 C hw_L_host iniL tw_L_host lk_L_84 nd_L_host (c_L_host kx (mx_mono (c_X11_host (c1 := (lwF (lwX xs i 3))) hZ.1 (lwI xs i 1) (lwI xs i 2) hl) (fun v G' z => ⟨z.1, z.2.1, hlf.2.2 G' z.2⟩)) (fun G' z => (z.1.1 out (by rw [hK]; decide)).trans hK) (iv_host ir iH) ic_host.2) dL_law_164 rfl rfl rfl ⟨by omega, by omega⟩ (Nat.le_of_ble_eq_true rfl) ⟨by omega, by omega⟩ (fun v G1 hq => ?_)
  obtain ⟨rfl, hq⟩ := hq
  obtain ⟨hL, hM1, hx1, ho1, hg1, hv1⟩ := rkLw_go h hq hlf.2.1
  refine x_as (G' := wR G1 (gR G)) (by rw [← hg1]; rfl) rfl rfl ?_
  refine x_istore 169 C dL_law_167 rfl rfl rfl ?_
  refine x_aload_n 170 C dL_law_169 rfl rfl ?_
  refine x_arg 176 1 C hX hbl hE hi (by decide) dL_law_170 dL_law_171 dL_law_173 dL_law_174 dL_law_175 rfl rfl rfl ?_
  refine x_arg 182 2 C hX hbl hE hi (by decide) dL_law_176 dL_law_177 dL_law_179 dL_law_180 dL_law_181 rfl rfl rfl ?_
  refine x_arg 188 3 C hX hbl hE hi (by decide) dL_law_182 dL_law_183 dL_law_185 dL_law_186 dL_law_187 rfl rfl rfl ?_
  refine x_flag 196 C dL_law_188 dL_law_191 dL_law_192 dL_law_195 rfl (lwI xs i 3) ?_
  refine x_Vr (As := [_, _, _]) 199 C vw_L_89 iw_X12_host sw_X12_host (c_X12_host (R := gR G) (z := (lwF (lwX xs i 3))) hM1 (lwI xs i 1) (lwI xs i 2) iH) dL_law_196 rfl rfl rfl rfl rfl rfl hM1.1 ⟨by omega, by omega⟩ (Nat.le_of_ble_eq_true rfl) ?_
  refine x_istore 201 C dL_law_199 rfl rfl rfl ?_
  exact x_tail (pc := 201) C hRm hM1 ho1 hlf.1 (ic_in ic_host (by decide)) (iv_host ir iH) hv1 dL_law_201 dL_law_202 dL_law_205 dL_law_207 dL_law_212 dL_law_214 dL_law_217 dL_law_218 dL_law_219 dL_law_220 dL_law_222 dL_law_223 dL_law_224 dL_law_229 (by decide) (k _ _ _ hL)
set_option maxHeartbeats 2000000 in
set_option maxRecDepth 100000 in
theorem lw_toggleSuffix (C : CX E p R s m args meth c cL_law 7 RL mc ms ret) (hRm : 12 ≤ R.frames ∧ 400 ≤ R.locals) (hX : va_X bS LS xs s s.heap) (hbl : bS < s.heap.size) (hE : s.heap.size ≤ E.2.2.1) (hi : 0 ≤ i ∧ i + 8 ≤ LS ∧ LS ≤ 4096) (h : rkLw G B o out n) (hn : 0 ≤ n ∧ n ≤ 600) (hl : l.stackTraces = false) (hkc : kc0 + 71 ≤ kc ∧ ks0 + 10086 ≤ ks)
    (k : ∀ (G' : GT) (a5 a6 : Option Value), rkLw G' B o out (n + 1) → XW E p l e R s m args below meth c 7 mc ms Q G' kc0 ks0 1519 [some (.ref bS), some (.ref (B 0)), some (.ref o), some (.ref out), some (.int (i32 i)), a5, a6] []) : XW E p l e R s m args below meth c 7 mc ms Q G kc ks 232 [some (.ref bS), some (.ref (B 0)), some (.ref o), some (.ref out), some (.int (i32 i)), b5, b6] [] := by
  obtain ⟨hM, hK, hZ, hP, hI⟩ := h
  have h : rkLw G B o out n := ⟨hM, hK, hZ, hP, hI⟩
  obtain ⟨iH, iA, iAd, iHl, iP, iS, ir, iU⟩ := hZ.1.2.2.2.2
  have hT : gR G 0 0 ≤ 900000000 := by have := hI.2.2.2.2; omega
  have h53 : gR G 53 0 ≤ 240 := by have a1 := hI.1.2.2.2.2.2.2.1; have a2 := hI.2.1.1; omega
  have kx : gK G (B 0) = 14 := hZ.1.1.1.1
  refine x_aload_n 233 C dL_law_232 rfl rfl ?_
  refine x_arg 239 1 C hX hbl hE hi (by decide) dL_law_233 dL_law_234 dL_law_236 dL_law_237 dL_law_238 rfl rfl rfl ?_
  refine x_aload_n 240 C dL_law_239 rfl rfl ?_
  have hlf := lf_suf (a := (lwX xs i 1)) hZ hP hI
  refine x_callSH (As := [_, _, _]) 243 kc0 ks0 C hw_L_toggleSuffix iniL tw_L_toggleSuffix lk_L_94 nd_L_toggleSuffix (c_L_toggleSuffix kx (mx_mono (c_X11_toggleSuffix hZ.1 (lwI xs i 1) hl) (fun v G' z => ⟨z.1, z.2.1, hlf.2.2 G' z.2⟩)) (fun G' z => (z.1.1 out (by rw [hK]; decide)).trans hK) iv_tog ic_tog.2) dL_law_240 rfl rfl rfl ⟨by omega, by omega⟩ (Nat.le_of_ble_eq_true rfl) ⟨by omega, by omega⟩ (fun v G1 hq => ?_)
  obtain ⟨rfl, hq⟩ := hq
  obtain ⟨hL, hM1, hx1, ho1, hg1, hv1⟩ := rkLw_go h hq hlf.2.1
  refine x_as (G' := wR G1 (gR G)) (by rw [← hg1]; rfl) rfl rfl ?_
  refine x_istore 245 C dL_law_243 rfl rfl rfl ?_
  refine x_aload_n 246 C dL_law_245 rfl rfl ?_
  refine x_arg 252 1 C hX hbl hE hi (by decide) dL_law_246 dL_law_247 dL_law_249 dL_law_250 dL_law_251 rfl rfl rfl ?_
  refine x_Vr (As := [_]) 255 C vw_L_97 iw_X12_toggleSuffix sw_X12_toggleSuffix (c_X12_toggleSuffix (R := gR G) hM1 (lwI xs i 1) iH) dL_law_252 rfl rfl rfl rfl rfl rfl hM1.1 ⟨by omega, by omega⟩ (Nat.le_of_ble_eq_true rfl) ?_
  refine x_istore 257 C dL_law_255 rfl rfl rfl ?_
  exact x_tailb (pc := 257) C hRm hM1 ho1 hlf.1 (ic_in ic_tog (by decide)) iv_tog hv1 dL_law_257 dL_law_258 dL_law_261 dL_law_263 dL_law_268 dL_law_270 dL_law_273 dL_law_274 dL_law_275 dL_law_276 dL_law_278 dL_law_281 dL_law_282 dL_law_285 dL_law_286 dL_law_287 dL_law_292 (by decide) (k _ _ _ hL)
set_option maxHeartbeats 2000000 in
set_option maxRecDepth 100000 in
theorem lw_site (C : CX E p R s m args meth c cL_law 7 RL mc ms ret) (hRm : 12 ≤ R.frames ∧ 400 ≤ R.locals) (hX : va_X bS LS xs s s.heap) (hbl : bS < s.heap.size) (hE : s.heap.size ≤ E.2.2.1) (hi : 0 ≤ i ∧ i + 8 ≤ LS ∧ LS ≤ 4096) (h : rkLw G B o out n) (hn : 0 ≤ n ∧ n ≤ 600) (hl : l.stackTraces = false) (hkc : kc0 + 71 ≤ kc ∧ ks0 + 10086 ≤ ks)
    (k : ∀ (G' : GT) (a5 a6 : Option Value), rkLw G' B o out (n + 1) → XW E p l e R s m args below meth c 7 mc ms Q G' kc0 ks0 1519 [some (.ref bS), some (.ref (B 0)), some (.ref o), some (.ref out), some (.int (i32 i)), a5, a6] []) : XW E p l e R s m args below meth c 7 mc ms Q G kc ks 295 [some (.ref bS), some (.ref (B 0)), some (.ref o), some (.ref out), some (.int (i32 i)), b5, b6] [] := by
  obtain ⟨hM, hK, hZ, hP, hI⟩ := h
  have h : rkLw G B o out n := ⟨hM, hK, hZ, hP, hI⟩
  obtain ⟨iH, iA, iAd, iHl, iP, iS, ir, iU⟩ := hZ.1.2.2.2.2
  have hT : gR G 0 0 ≤ 900000000 := by have := hI.2.2.2.2; omega
  have h53 : gR G 53 0 ≤ 240 := by have a1 := hI.1.2.2.2.2.2.2.1; have a2 := hI.2.1.1; omega
  have kx : gK G (B 0) = 14 := hZ.1.1.1.1
  refine x_aload_n 296 C dL_law_295 rfl rfl ?_
  refine x_arg 302 1 C hX hbl hE hi (by decide) dL_law_296 dL_law_297 dL_law_299 dL_law_300 dL_law_301 rfl rfl rfl ?_
  refine x_aload_n 303 C dL_law_302 rfl rfl ?_
  have hlf := lf_look (c := rTogC (gR G) (lwX xs i 1)) hZ hP hI (ic_3 ic_tog (by decide))
  refine x_callSH (As := [_, _, _]) 306 kc0 ks0 C hw_L_site iniL tw_L_site lk_L_98 nd_L_site (c_L_site kx (mx_mono (c_X11_site hZ.1 (lwI xs i 1) hl) (fun v G' z => ⟨z.1, z.2.1, hlf.2.2 G' z.2⟩)) (fun G' z => (z.1.1 out (by rw [hK]; decide)).trans hK) (iv_site iH) ic_tog.2) dL_law_303 rfl rfl rfl ⟨by omega, by omega⟩ (Nat.le_of_ble_eq_true rfl) ⟨by omega, by omega⟩ (fun v G1 hq => ?_)
  obtain ⟨rfl, hq⟩ := hq
  obtain ⟨hL, hM1, hx1, ho1, hg1, hv1⟩ := rkLw_go h hq hlf.2.1
  refine x_as (G' := wR G1 (gR G)) (by rw [← hg1]; rfl) rfl rfl ?_
  refine x_istore 308 C dL_law_306 rfl rfl rfl ?_
  refine x_aload_n 309 C dL_law_308 rfl rfl ?_
  refine x_arg 315 1 C hX hbl hE hi (by decide) dL_law_309 dL_law_310 dL_law_312 dL_law_313 dL_law_314 rfl rfl rfl ?_
  refine x_Vr (As := [_]) 318 C vw_L_100 iw_X12_site sw_X12_site (c_X12_site (R := gR G) hM1 (lwI xs i 1) iH) dL_law_315 rfl rfl rfl rfl rfl rfl hM1.1 ⟨by omega, by omega⟩ (Nat.le_of_ble_eq_true rfl) ?_
  refine x_istore 320 C dL_law_318 rfl rfl rfl ?_
  exact x_tail (pc := 320) C hRm hM1 ho1 hlf.1 (ic_in ic_tog (by decide)) (iv_site iH) hv1 dL_law_320 dL_law_321 dL_law_324 dL_law_326 dL_law_331 dL_law_333 dL_law_336 dL_law_337 dL_law_338 dL_law_339 dL_law_341 dL_law_342 dL_law_343 dL_law_348 (by decide) (k _ _ _ hL)
set_option maxHeartbeats 2000000 in
set_option maxRecDepth 100000 in
theorem lw_address (C : CX E p R s m args meth c cL_law 7 RL mc ms ret) (hRm : 12 ≤ R.frames ∧ 400 ≤ R.locals) (hX : va_X bS LS xs s s.heap) (hbl : bS < s.heap.size) (hE : s.heap.size ≤ E.2.2.1) (hi : 0 ≤ i ∧ i + 8 ≤ LS ∧ LS ≤ 4096) (h : rkLw G B o out n) (hn : 0 ≤ n ∧ n ≤ 600) (hl : l.stackTraces = false) (hkc : kc0 + 71 ≤ kc ∧ ks0 + 10086 ≤ ks)
    (k : ∀ (G' : GT) (a5 a6 : Option Value), rkLw G' B o out (n + 1) → XW E p l e R s m args below meth c 7 mc ms Q G' kc0 ks0 1519 [some (.ref bS), some (.ref (B 0)), some (.ref o), some (.ref out), some (.int (i32 i)), a5, a6] []) : XW E p l e R s m args below meth c 7 mc ms Q G kc ks 351 [some (.ref bS), some (.ref (B 0)), some (.ref o), some (.ref out), some (.int (i32 i)), b5, b6] [] := by
  obtain ⟨hM, hK, hZ, hP, hI⟩ := h
  have h : rkLw G B o out n := ⟨hM, hK, hZ, hP, hI⟩
  obtain ⟨iH, iA, iAd, iHl, iP, iS, ir, iU⟩ := hZ.1.2.2.2.2
  have hT : gR G 0 0 ≤ 900000000 := by have := hI.2.2.2.2; omega
  have h53 : gR G 53 0 ≤ 240 := by have a1 := hI.1.2.2.2.2.2.2.1; have a2 := hI.2.1.1; omega
  have kx : gK G (B 0) = 14 := hZ.1.1.1.1
  refine x_aload_n 352 C dL_law_351 rfl rfl ?_
  refine x_arg 358 1 C hX hbl hE hi (by decide) dL_law_352 dL_law_353 dL_law_355 dL_law_356 dL_law_357 rfl rfl rfl ?_
  refine x_arg 364 2 C hX hbl hE hi (by decide) dL_law_358 dL_law_359 dL_law_361 dL_law_362 dL_law_363 rfl rfl rfl ?_
  refine x_arg 370 3 C hX hbl hE hi (by decide) dL_law_364 dL_law_365 dL_law_367 dL_law_368 dL_law_369 rfl rfl rfl ?_
  refine x_arg 376 4 C hX hbl hE hi (by decide) dL_law_370 dL_law_371 dL_law_373 dL_law_374 dL_law_375 rfl rfl rfl ?_
  refine x_aload_n 377 C dL_law_376 rfl rfl ?_
  have hlf := lf_adr (a := (lwX xs i 1)) (b := (lwX xs i 2)) (c := (lwX xs i 3)) (d := (lwX xs i 4)) hZ hP hI _ rfl
  refine x_callSH (As := [_, _, _, _, _, _]) 380 kc0 ks0 C hw_L_address iniL tw_L_address lk_L_101 nd_L_address (c_L_address kx (mx_mono (c_X11_address hZ.1 (lwI xs i 1) (lwI xs i 2) (lwI xs i 3) (lwI xs i 4) hl) (fun v G' z => ⟨z.1, z.2.1, hlf.2.2 G' z.2⟩)) (fun G' z => (z.1.1 out (by rw [hK]; decide)).trans hK) (iv_addr iA) ic_addr.2) dL_law_377 rfl rfl rfl ⟨by omega, by omega⟩ (Nat.le_of_ble_eq_true rfl) ⟨by omega, by omega⟩ (fun v G1 hq => ?_)
  obtain ⟨rfl, hq⟩ := hq
  obtain ⟨hL, hM1, hx1, ho1, hg1, hv1⟩ := rkLw_go h hq hlf.2.1
  refine x_as (G' := wR G1 (gR G)) (by rw [← hg1]; rfl) rfl rfl ?_
  refine x_istore 382 C dL_law_380 rfl rfl rfl ?_
  refine x_aload_n 383 C dL_law_382 rfl rfl ?_
  refine x_arg 389 1 C hX hbl hE hi (by decide) dL_law_383 dL_law_384 dL_law_386 dL_law_387 dL_law_388 rfl rfl rfl ?_
  refine x_arg 395 2 C hX hbl hE hi (by decide) dL_law_389 dL_law_390 dL_law_392 dL_law_393 dL_law_394 rfl rfl rfl ?_
  refine x_arg 401 3 C hX hbl hE hi (by decide) dL_law_395 dL_law_396 dL_law_398 dL_law_399 dL_law_400 rfl rfl rfl ?_
  refine x_arg 407 4 C hX hbl hE hi (by decide) dL_law_401 dL_law_402 dL_law_404 dL_law_405 dL_law_406 rfl rfl rfl ?_
  refine x_Vr (As := [_, _, _, _]) 410 C vw_L_104 iw_X12_address sw_X12_address (c_X12_address (R := gR G) hM1 (lwI xs i 1) (lwI xs i 2) (lwI xs i 3) (lwI xs i 4) iH iA) dL_law_407 rfl rfl rfl rfl rfl rfl hM1.1 ⟨by omega, by omega⟩ (Nat.le_of_ble_eq_true rfl) ?_
  refine x_istore 412 C dL_law_410 rfl rfl rfl ?_
  exact x_tail (pc := 412) C hRm hM1 ho1 hlf.1 (ic_in ic_addr (by decide)) (iv_addr iA) hv1 dL_law_412 dL_law_413 dL_law_416 dL_law_418 dL_law_423 dL_law_425 dL_law_428 dL_law_429 dL_law_430 dL_law_431 dL_law_433 dL_law_434 dL_law_435 dL_law_440 (by decide) (k _ _ _ hL)
set_option maxHeartbeats 2000000 in
set_option maxRecDepth 100000 in
theorem lw_resolve (C : CX E p R s m args meth c cL_law 7 RL mc ms ret) (hRm : 12 ≤ R.frames ∧ 400 ≤ R.locals) (hX : va_X bS LS xs s s.heap) (hbl : bS < s.heap.size) (hE : s.heap.size ≤ E.2.2.1) (hi : 0 ≤ i ∧ i + 8 ≤ LS ∧ LS ≤ 4096) (h : rkLw G B o out n) (hn : 0 ≤ n ∧ n ≤ 600) (hl : l.stackTraces = false) (hkc : kc0 + 71 ≤ kc ∧ ks0 + 10086 ≤ ks)
    (k : ∀ (G' : GT) (a5 a6 : Option Value), rkLw G' B o out (n + 1) → XW E p l e R s m args below meth c 7 mc ms Q G' kc0 ks0 1519 [some (.ref bS), some (.ref (B 0)), some (.ref o), some (.ref out), some (.int (i32 i)), a5, a6] []) : XW E p l e R s m args below meth c 7 mc ms Q G kc ks 443 [some (.ref bS), some (.ref (B 0)), some (.ref o), some (.ref out), some (.int (i32 i)), b5, b6] [] := by
  obtain ⟨hM, hK, hZ, hP, hI⟩ := h
  have h : rkLw G B o out n := ⟨hM, hK, hZ, hP, hI⟩
  obtain ⟨iH, iA, iAd, iHl, iP, iS, ir, iU⟩ := hZ.1.2.2.2.2
  have hT : gR G 0 0 ≤ 900000000 := by have := hI.2.2.2.2; omega
  have h53 : gR G 53 0 ≤ 240 := by have a1 := hI.1.2.2.2.2.2.2.1; have a2 := hI.2.1.1; omega
  have kx : gK G (B 0) = 14 := hZ.1.1.1.1
  refine x_aload_n 444 C dL_law_443 rfl rfl ?_
  refine x_arg 450 1 C hX hbl hE hi (by decide) dL_law_444 dL_law_445 dL_law_447 dL_law_448 dL_law_449 rfl rfl rfl ?_
  refine x_arg 456 2 C hX hbl hE hi (by decide) dL_law_450 dL_law_451 dL_law_453 dL_law_454 dL_law_455 rfl rfl rfl ?_
  refine x_aload_n 457 C dL_law_456 rfl rfl ?_
  have hlf := lf_rsl (a := (lwX xs i 1)) (r := (lwX xs i 2)) hZ hP hI (InR_rsl ir) _ rfl
  refine x_callSH (As := [_, _, _, _]) 460 kc0 ks0 C hw_L_resolve iniL tw_L_resolve lk_L_105 nd_L_resolve (c_L_resolve kx (mx_mono (c_X11_resolve hZ.1 (lwI xs i 1) (lwI xs i 2) hl) (fun v G' z => ⟨z.1, z.2.1, hlf.2.2 G' z.2⟩)) (fun G' z => (z.1.1 out (by rw [hK]; decide)).trans hK) (iv_rsl iA) ic_rsl.2) dL_law_457 rfl rfl rfl ⟨by omega, by omega⟩ (Nat.le_of_ble_eq_true rfl) ⟨by omega, by omega⟩ (fun v G1 hq => ?_)
  obtain ⟨rfl, hq⟩ := hq
  obtain ⟨hL, hM1, hx1, ho1, hg1, hv1⟩ := rkLw_go h hq hlf.2.1
  refine x_as (G' := wR G1 (gR G)) (by rw [← hg1]; rfl) rfl rfl ?_
  refine x_istore 462 C dL_law_460 rfl rfl rfl ?_
  refine x_aload_n 463 C dL_law_462 rfl rfl ?_
  refine x_arg 469 1 C hX hbl hE hi (by decide) dL_law_463 dL_law_464 dL_law_466 dL_law_467 dL_law_468 rfl rfl rfl ?_
  refine x_arg 475 2 C hX hbl hE hi (by decide) dL_law_469 dL_law_470 dL_law_472 dL_law_473 dL_law_474 rfl rfl rfl ?_
  refine x_Vr (As := [_, _]) 478 C vw_L_108 iw_X12_resolve sw_X12_resolve (c_X12_resolve (R := gR G) hM1 iA iAd (lwI xs i 1) (lwI xs i 2)) dL_law_475 rfl rfl rfl rfl rfl rfl hM1.1 ⟨by omega, by omega⟩ (Nat.le_of_ble_eq_true rfl) ?_
  refine x_istore 480 C dL_law_478 rfl rfl rfl ?_
  exact x_tail (pc := 480) C hRm hM1 ho1 hlf.1 (ic_in ic_rsl (by decide)) (iv_rsl iA) hv1 dL_law_480 dL_law_481 dL_law_484 dL_law_486 dL_law_491 dL_law_493 dL_law_496 dL_law_497 dL_law_498 dL_law_499 dL_law_501 dL_law_502 dL_law_503 dL_law_508 (by decide) (k _ _ _ hL)
set_option maxHeartbeats 2000000 in
set_option maxRecDepth 100000 in
theorem lw_text (C : CX E p R s m args meth c cL_law 7 RL mc ms ret) (hRm : 12 ≤ R.frames ∧ 400 ≤ R.locals) (hX : va_X bS LS xs s s.heap) (hbl : bS < s.heap.size) (hE : s.heap.size ≤ E.2.2.1) (hi : 0 ≤ i ∧ i + 8 ≤ LS ∧ LS ≤ 4096) (h : rkLw G B o out n) (hn : 0 ≤ n ∧ n ≤ 600) (hl : l.stackTraces = false) (hkc : kc0 + 71 ≤ kc ∧ ks0 + 10086 ≤ ks)
    (k : ∀ (G' : GT) (a5 a6 : Option Value), rkLw G' B o out (n + 1) → XW E p l e R s m args below meth c 7 mc ms Q G' kc0 ks0 1519 [some (.ref bS), some (.ref (B 0)), some (.ref o), some (.ref out), some (.int (i32 i)), a5, a6] []) : XW E p l e R s m args below meth c 7 mc ms Q G kc ks 511 [some (.ref bS), some (.ref (B 0)), some (.ref o), some (.ref out), some (.int (i32 i)), b5, b6] [] := by
  obtain ⟨hM, hK, hZ, hP, hI⟩ := h
  have h : rkLw G B o out n := ⟨hM, hK, hZ, hP, hI⟩
  obtain ⟨iH, iA, iAd, iHl, iP, iS, ir, iU⟩ := hZ.1.2.2.2.2
  have hT : gR G 0 0 ≤ 900000000 := by have := hI.2.2.2.2; omega
  have h53 : gR G 53 0 ≤ 240 := by have a1 := hI.1.2.2.2.2.2.2.1; have a2 := hI.2.1.1; omega
  have kx : gK G (B 0) = 14 := hZ.1.1.1.1
  refine x_aload_n 512 C dL_law_511 rfl rfl ?_
  refine x_arg 518 1 C hX hbl hE hi (by decide) dL_law_512 dL_law_513 dL_law_515 dL_law_516 dL_law_517 rfl rfl rfl ?_
  refine x_arg 524 2 C hX hbl hE hi (by decide) dL_law_518 dL_law_519 dL_law_521 dL_law_522 dL_law_523 rfl rfl rfl ?_
  refine x_aload_n 525 C dL_law_524 rfl rfl ?_
  have hlf := lf_look (c := rTxC (gR G) (lwX xs i 1) (lwX xs i 2)) hZ hP hI (ic_3 ic_text (by decide))
  refine x_callSH (As := [_, _, _, _]) 528 kc0 ks0 C hw_L_text iniL tw_L_text lk_L_109 nd_L_text (c_L_text kx (mx_mono (c_X11_text hZ.1 (lwI xs i 1) (lwI xs i 2) hl) (fun v G' z => ⟨z.1, z.2.1, hlf.2.2 G' z.2⟩)) (fun G' z => (z.1.1 out (by rw [hK]; decide)).trans hK) (iv_text iH iHl iAd) ic_text.2) dL_law_525 rfl rfl rfl ⟨by omega, by omega⟩ (Nat.le_of_ble_eq_true rfl) ⟨by omega, by omega⟩ (fun v G1 hq => ?_)
  obtain ⟨rfl, hq⟩ := hq
  obtain ⟨hL, hM1, hx1, ho1, hg1, hv1⟩ := rkLw_go h hq hlf.2.1
  refine x_as (G' := wR G1 (gR G)) (by rw [← hg1]; rfl) rfl rfl ?_
  refine x_istore 530 C dL_law_528 rfl rfl rfl ?_
  refine x_aload_n 531 C dL_law_530 rfl rfl ?_
  refine x_arg 537 1 C hX hbl hE hi (by decide) dL_law_531 dL_law_532 dL_law_534 dL_law_535 dL_law_536 rfl rfl rfl ?_
  refine x_arg 543 2 C hX hbl hE hi (by decide) dL_law_537 dL_law_538 dL_law_540 dL_law_541 dL_law_542 rfl rfl rfl ?_
  refine x_Vr (As := [_, _]) 546 C vw_L_111 iw_X12_text sw_X12_text (c_X12_text (R := gR G) hM1 iH iHl iA iAd (lwI xs i 1) (lwI xs i 2)) dL_law_543 rfl rfl rfl rfl rfl rfl hM1.1 ⟨by omega, by omega⟩ (Nat.le_of_ble_eq_true rfl) ?_
  refine x_istore 548 C dL_law_546 rfl rfl rfl ?_
  exact x_tail (pc := 548) C hRm hM1 ho1 hlf.1 (ic_in ic_text (by decide)) (iv_text iH iHl iAd) hv1 dL_law_548 dL_law_549 dL_law_552 dL_law_554 dL_law_559 dL_law_561 dL_law_564 dL_law_565 dL_law_566 dL_law_567 dL_law_569 dL_law_570 dL_law_571 dL_law_576 (by decide) (k _ _ _ hL)
set_option maxHeartbeats 2000000 in
set_option maxRecDepth 100000 in
theorem lw_redirect (C : CX E p R s m args meth c cL_law 7 RL mc ms ret) (hRm : 12 ≤ R.frames ∧ 400 ≤ R.locals) (hX : va_X bS LS xs s s.heap) (hbl : bS < s.heap.size) (hE : s.heap.size ≤ E.2.2.1) (hi : 0 ≤ i ∧ i + 8 ≤ LS ∧ LS ≤ 4096) (h : rkLw G B o out n) (hn : 0 ≤ n ∧ n ≤ 600) (hl : l.stackTraces = false) (hkc : kc0 + 71 ≤ kc ∧ ks0 + 10086 ≤ ks)
    (k : ∀ (G' : GT) (a5 a6 : Option Value), rkLw G' B o out (n + 1) → XW E p l e R s m args below meth c 7 mc ms Q G' kc0 ks0 1519 [some (.ref bS), some (.ref (B 0)), some (.ref o), some (.ref out), some (.int (i32 i)), a5, a6] []) : XW E p l e R s m args below meth c 7 mc ms Q G kc ks 579 [some (.ref bS), some (.ref (B 0)), some (.ref o), some (.ref out), some (.int (i32 i)), b5, b6] [] := by
  obtain ⟨hM, hK, hZ, hP, hI⟩ := h
  have h : rkLw G B o out n := ⟨hM, hK, hZ, hP, hI⟩
  obtain ⟨iH, iA, iAd, iHl, iP, iS, ir, iU⟩ := hZ.1.2.2.2.2
  have hT : gR G 0 0 ≤ 900000000 := by have := hI.2.2.2.2; omega
  have h53 : gR G 53 0 ≤ 240 := by have a1 := hI.1.2.2.2.2.2.2.1; have a2 := hI.2.1.1; omega
  have kx : gK G (B 0) = 14 := hZ.1.1.1.1
  refine x_aload_n 580 C dL_law_579 rfl rfl ?_
  refine x_arg 586 1 C hX hbl hE hi (by decide) dL_law_580 dL_law_581 dL_law_583 dL_law_584 dL_law_585 rfl rfl rfl ?_
  refine x_arg 592 2 C hX hbl hE hi (by decide) dL_law_586 dL_law_587 dL_law_589 dL_law_590 dL_law_591 rfl rfl rfl ?_
  refine x_arg 598 3 C hX hbl hE hi (by decide) dL_law_592 dL_law_593 dL_law_595 dL_law_596 dL_law_597 rfl rfl rfl ?_
  have hlf := lf_red (a := (lwX xs i 1)) (b := (lwX xs i 2)) (c := (lwX xs i 3)) hZ hP hI
  refine x_callSH (As := [_, _, _, _]) 601 kc0 ks0 C hw_L_redirect iniL tw_L_redirect lk_L_112 nd_L_redirect (c_L_redirect kx (mx_mono (c_X11_redirect hZ.1 (lwI xs i 1) (lwI xs i 2) (lwI xs i 3) hl) (fun v G' z => ⟨z.1, z.2.1, hlf.2.2 G' z.2⟩)) ic_red.2) dL_law_598 rfl rfl rfl ⟨by omega, by omega⟩ (Nat.le_of_ble_eq_true rfl) ⟨by omega, by omega⟩ (fun v G1 hq => ?_)
  obtain ⟨rfl, hq⟩ := hq
  obtain ⟨hL, hM1, hx1, hg1⟩ := rkLw_gv h hq hlf.2.1
  refine x_as (G' := wR G1 (gR G)) (by rw [← hg1]; rfl) rfl rfl ?_
  refine x_istore 603 C dL_law_601 rfl rfl rfl ?_
  refine x_aload_n 604 C dL_law_603 rfl rfl ?_
  refine x_arg 610 1 C hX hbl hE hi (by decide) dL_law_604 dL_law_605 dL_law_607 dL_law_608 dL_law_609 rfl rfl rfl ?_
  refine x_arg 616 2 C hX hbl hE hi (by decide) dL_law_610 dL_law_611 dL_law_613 dL_law_614 dL_law_615 rfl rfl rfl ?_
  refine x_arg 622 3 C hX hbl hE hi (by decide) dL_law_616 dL_law_617 dL_law_619 dL_law_620 dL_law_621 rfl rfl rfl ?_
  refine x_callV (As := [_, _, _]) 625 15 kc0 ks0 C vw_L_115 iw_X12_redirect sw_X12_redirect (c_X12_redirect (R := gR G) hM1 (lwI xs i 1) (lwI xs i 2) (lwI xs i 3) iA) dL_law_622 rfl rfl rfl rfl rfl rfl hM1.1 ⟨by omega, by omega⟩ (Nat.le_of_ble_eq_true rfl) ⟨by omega, by omega⟩ (fun v G9 hq9 => ?_)
  obtain ⟨rfl, rfl⟩ := hq9
  refine x_as rfl rfl rfl ?_
  exact x_tailv (pc := 625) C hRm hM1 hlf.1 (ic_in ic_red (by decide)) dL_law_625 dL_law_626 dL_law_629 dL_law_631 dL_law_636 (by decide) (k _ _ _ hL)
set_option maxHeartbeats 2000000 in
set_option maxRecDepth 100000 in
theorem lw_allow (C : CX E p R s m args meth c cL_law 7 RL mc ms ret) (hRm : 12 ≤ R.frames ∧ 400 ≤ R.locals) (hX : va_X bS LS xs s s.heap) (hbl : bS < s.heap.size) (hE : s.heap.size ≤ E.2.2.1) (hi : 0 ≤ i ∧ i + 8 ≤ LS ∧ LS ≤ 4096) (h : rkLw G B o out n) (hn : 0 ≤ n ∧ n ≤ 600) (hl : l.stackTraces = false) (hkc : kc0 + 71 ≤ kc ∧ ks0 + 10086 ≤ ks)
    (k : ∀ (G' : GT) (a5 a6 : Option Value), rkLw G' B o out (n + 1) → XW E p l e R s m args below meth c 7 mc ms Q G' kc0 ks0 1519 [some (.ref bS), some (.ref (B 0)), some (.ref o), some (.ref out), some (.int (i32 i)), a5, a6] []) : XW E p l e R s m args below meth c 7 mc ms Q G kc ks 639 [some (.ref bS), some (.ref (B 0)), some (.ref o), some (.ref out), some (.int (i32 i)), b5, b6] [] := by
  obtain ⟨hM, hK, hZ, hP, hI⟩ := h
  have h : rkLw G B o out n := ⟨hM, hK, hZ, hP, hI⟩
  obtain ⟨iH, iA, iAd, iHl, iP, iS, ir, iU⟩ := hZ.1.2.2.2.2
  have hT : gR G 0 0 ≤ 900000000 := by have := hI.2.2.2.2; omega
  have h53 : gR G 53 0 ≤ 240 := by have a1 := hI.1.2.2.2.2.2.2.1; have a2 := hI.2.1.1; omega
  have kx : gK G (B 0) = 14 := hZ.1.1.1.1
  refine x_aload_n 640 C dL_law_639 rfl rfl ?_
  refine x_arg 646 1 C hX hbl hE hi (by decide) dL_law_640 dL_law_641 dL_law_643 dL_law_644 dL_law_645 rfl rfl rfl ?_
  refine x_arg 652 2 C hX hbl hE hi (by decide) dL_law_646 dL_law_647 dL_law_649 dL_law_650 dL_law_651 rfl rfl rfl ?_
  refine x_arg 658 3 C hX hbl hE hi (by decide) dL_law_652 dL_law_653 dL_law_655 dL_law_656 dL_law_657 rfl rfl rfl ?_
  refine x_flag 666 C dL_law_658 dL_law_661 dL_law_662 dL_law_665 rfl (lwI xs i 3) ?_
  refine x_arg 672 4 C hX hbl hE hi (by decide) dL_law_666 dL_law_667 dL_law_669 dL_law_670 dL_law_671 rfl rfl rfl ?_
  refine x_arg 678 5 C hX hbl hE hi (by decide) dL_law_672 dL_law_673 dL_law_675 dL_law_676 dL_law_677 rfl rfl rfl ?_
  have hlf := lf_all (a := (lwX xs i 1)) (w := (lwX xs i 2)) (c := (lwF (lwX xs i 3))) (s := (lwX xs i 4)) (t := (lwX xs i 5)) hZ hP hI (lwF_01 _)
  refine x_callSH (As := [_, _, _, _, _, _]) 681 kc0 ks0 C hw_L_allow iniL tw_L_allow lk_L_116 nd_L_allow (c_L_allow kx (mx_mono (c_X11_allow hZ.1 (lwI xs i 1) (lwI xs i 2) (lwF_01 _) (lwI xs i 4) (lwI xs i 5) hl) (fun v G' z => ⟨z.1, z.2.1, hlf.2.2 G' z.2⟩)) ic_all.2) dL_law_678 rfl rfl rfl ⟨by omega, by omega⟩ (Nat.le_of_ble_eq_true rfl) ⟨by omega, by omega⟩ (fun v G1 hq => ?_)
  obtain ⟨rfl, hq⟩ := hq
  obtain ⟨hL, hM1, hx1, hg1⟩ := rkLw_gv h hq hlf.2.1
  refine x_as (G' := wR G1 (gR G)) (by rw [← hg1]; rfl) rfl rfl ?_
  refine x_istore 683 C dL_law_681 rfl rfl rfl ?_
  refine x_aload_n 684 C dL_law_683 rfl rfl ?_
  refine x_arg 690 1 C hX hbl hE hi (by decide) dL_law_684 dL_law_685 dL_law_687 dL_law_688 dL_law_689 rfl rfl rfl ?_
  refine x_arg 696 2 C hX hbl hE hi (by decide) dL_law_690 dL_law_691 dL_law_693 dL_law_694 dL_law_695 rfl rfl rfl ?_
  refine x_arg 702 3 C hX hbl hE hi (by decide) dL_law_696 dL_law_697 dL_law_699 dL_law_700 dL_law_701 rfl rfl rfl ?_
  refine x_flag 710 C dL_law_702 dL_law_705 dL_law_706 dL_law_709 rfl (lwI xs i 3) ?_
  refine x_arg 716 4 C hX hbl hE hi (by decide) dL_law_710 dL_law_711 dL_law_713 dL_law_714 dL_law_715 rfl rfl rfl ?_
  refine x_arg 722 5 C hX hbl hE hi (by decide) dL_law_716 dL_law_717 dL_law_719 dL_law_720 dL_law_721 rfl rfl rfl ?_
  refine x_callV (As := [_, _, _, _, _]) 725 15 kc0 ks0 C vw_L_119 iw_X12_allow sw_X12_allow (c_X12_allow (R := gR G) hM1 (lwI xs i 1) (lwI xs i 2) (lwF_01 _) (lwI xs i 4) (lwI xs i 5) iA) dL_law_722 rfl rfl rfl rfl rfl rfl hM1.1 ⟨by omega, by omega⟩ (Nat.le_of_ble_eq_true rfl) ⟨by omega, by omega⟩ (fun v G9 hq9 => ?_)
  obtain ⟨rfl, rfl⟩ := hq9
  refine x_as rfl rfl rfl ?_
  exact x_tailv (pc := 725) C hRm hM1 hlf.1 (ic_in ic_all (by decide)) dL_law_725 dL_law_726 dL_law_729 dL_law_731 dL_law_736 (by decide) (k _ _ _ hL)
set_option maxHeartbeats 2000000 in
set_option maxRecDepth 100000 in
theorem lw_setsCookie (C : CX E p R s m args meth c cL_law 7 RL mc ms ret) (hRm : 12 ≤ R.frames ∧ 400 ≤ R.locals) (hX : va_X bS LS xs s s.heap) (hbl : bS < s.heap.size) (hE : s.heap.size ≤ E.2.2.1) (hi : 0 ≤ i ∧ i + 8 ≤ LS ∧ LS ≤ 4096) (h : rkLw G B o out n) (hn : 0 ≤ n ∧ n ≤ 600) (hl : l.stackTraces = false) (hkc : kc0 + 71 ≤ kc ∧ ks0 + 10086 ≤ ks)
    (k : ∀ (G' : GT) (a5 a6 : Option Value), rkLw G' B o out (n + 1) → XW E p l e R s m args below meth c 7 mc ms Q G' kc0 ks0 1519 [some (.ref bS), some (.ref (B 0)), some (.ref o), some (.ref out), some (.int (i32 i)), a5, a6] []) : XW E p l e R s m args below meth c 7 mc ms Q G kc ks 739 [some (.ref bS), some (.ref (B 0)), some (.ref o), some (.ref out), some (.int (i32 i)), b5, b6] [] := by
  obtain ⟨hM, hK, hZ, hP, hI⟩ := h
  have h : rkLw G B o out n := ⟨hM, hK, hZ, hP, hI⟩
  obtain ⟨iH, iA, iAd, iHl, iP, iS, ir, iU⟩ := hZ.1.2.2.2.2
  have hT : gR G 0 0 ≤ 900000000 := by have := hI.2.2.2.2; omega
  have h53 : gR G 53 0 ≤ 240 := by have a1 := hI.1.2.2.2.2.2.2.1; have a2 := hI.2.1.1; omega
  have kx : gK G (B 0) = 14 := hZ.1.1.1.1
  refine x_aload_n 740 C dL_law_739 rfl rfl ?_
  refine x_arg 746 1 C hX hbl hE hi (by decide) dL_law_740 dL_law_741 dL_law_743 dL_law_744 dL_law_745 rfl rfl rfl ?_
  refine x_arg 752 2 C hX hbl hE hi (by decide) dL_law_746 dL_law_747 dL_law_749 dL_law_750 dL_law_751 rfl rfl rfl ?_
  refine x_arg 758 3 C hX hbl hE hi (by decide) dL_law_752 dL_law_753 dL_law_755 dL_law_756 dL_law_757 rfl rfl rfl ?_
  refine x_arg 764 4 C hX hbl hE hi (by decide) dL_law_758 dL_law_759 dL_law_761 dL_law_762 dL_law_763 rfl rfl rfl ?_
  refine x_arg 770 5 C hX hbl hE hi (by decide) dL_law_764 dL_law_765 dL_law_767 dL_law_768 dL_law_769 rfl rfl rfl ?_
  refine x_argb 777 6 C hX hbl hE hi (by decide) dL_law_770 dL_law_771 dL_law_773 dL_law_775 dL_law_776 rfl rfl rfl ?_
  refine x_argb 784 7 C hX hbl hE hi (by decide) dL_law_777 dL_law_778 dL_law_780 dL_law_782 dL_law_783 rfl rfl rfl ?_
  have hlf := lf_set (a := (lwX xs i 1)) (n := (lwX xs i 2)) (v := (lwX xs i 3)) (d := (lwX xs i 4)) (w := (lwX xs i 5)) (f := (lwX xs i 6)) (t := (lwX xs i 7)) hZ hP hI
  refine x_callSH (As := [_, _, _, _, _, _, _, _]) 787 kc0 ks0 C hw_L_setsCookie iniL tw_L_setsCookie lk_L_120 nd_L_setsCookie (c_L_setsCookie kx (mx_mono (c_X11_setsCookie hZ.1 (lwI xs i 1) (lwI xs i 2) (lwI xs i 3) (lwI xs i 4) (lwI xs i 5) (lwI xs i 6) (lwI xs i 7) hl) (fun v G' z => ⟨z.1, z.2.1, hlf.2.2 G' z.2⟩)) ic_set.2) dL_law_784 rfl rfl rfl ⟨by omega, by omega⟩ (Nat.le_of_ble_eq_true rfl) ⟨by omega, by omega⟩ (fun v G1 hq => ?_)
  obtain ⟨rfl, hq⟩ := hq
  obtain ⟨hL, hM1, hx1, hg1⟩ := rkLw_gv h hq hlf.2.1
  refine x_as (G' := wR G1 (gR G)) (by rw [← hg1]; rfl) rfl rfl ?_
  refine x_istore 789 C dL_law_787 rfl rfl rfl ?_
  refine x_aload_n 790 C dL_law_789 rfl rfl ?_
  refine x_arg 796 1 C hX hbl hE hi (by decide) dL_law_790 dL_law_791 dL_law_793 dL_law_794 dL_law_795 rfl rfl rfl ?_
  refine x_arg 802 2 C hX hbl hE hi (by decide) dL_law_796 dL_law_797 dL_law_799 dL_law_800 dL_law_801 rfl rfl rfl ?_
  refine x_arg 808 3 C hX hbl hE hi (by decide) dL_law_802 dL_law_803 dL_law_805 dL_law_806 dL_law_807 rfl rfl rfl ?_
  refine x_arg 814 4 C hX hbl hE hi (by decide) dL_law_808 dL_law_809 dL_law_811 dL_law_812 dL_law_813 rfl rfl rfl ?_
  refine x_arg 820 5 C hX hbl hE hi (by decide) dL_law_814 dL_law_815 dL_law_817 dL_law_818 dL_law_819 rfl rfl rfl ?_
  refine x_argb 827 6 C hX hbl hE hi (by decide) dL_law_820 dL_law_821 dL_law_823 dL_law_825 dL_law_826 rfl rfl rfl ?_
  refine x_argb 834 7 C hX hbl hE hi (by decide) dL_law_827 dL_law_828 dL_law_830 dL_law_832 dL_law_833 rfl rfl rfl ?_
  refine x_callV (As := [_, _, _, _, _, _, _]) 837 15 kc0 ks0 C vw_L_123 iw_X12_setsCookie sw_X12_setsCookie (c_X12_setsCookie (R := gR G) hM1 (lwI xs i 1) (lwI xs i 2) (lwI xs i 3) (lwI xs i 4) (lwI xs i 5) (lwI xs i 6) (lwI xs i 7) iH iA) dL_law_834 rfl rfl rfl rfl rfl rfl hM1.1 ⟨by omega, by omega⟩ (Nat.le_of_ble_eq_true rfl) ⟨by omega, by omega⟩ (fun v G9 hq9 => ?_)
  obtain ⟨rfl, rfl⟩ := hq9
  refine x_as rfl rfl rfl ?_
  exact x_tailv (pc := 837) C hRm hM1 hlf.1 (ic_in ic_set (by decide)) dL_law_837 dL_law_838 dL_law_841 dL_law_843 dL_law_848 (by decide) (k _ _ _ hL)
set_option maxHeartbeats 2000000 in
set_option maxRecDepth 100000 in
theorem lw_page (C : CX E p R s m args meth c cL_law 7 RL mc ms ret) (hRm : 12 ≤ R.frames ∧ 400 ≤ R.locals) (hX : va_X bS LS xs s s.heap) (hbl : bS < s.heap.size) (hE : s.heap.size ≤ E.2.2.1) (hi : 0 ≤ i ∧ i + 8 ≤ LS ∧ LS ≤ 4096) (h : rkLw G B o out n) (hn : 0 ≤ n ∧ n ≤ 600) (hl : l.stackTraces = false) (hkc : kc0 + 71 ≤ kc ∧ ks0 + 10086 ≤ ks)
    (k : ∀ (G' : GT) (a5 a6 : Option Value), rkLw G' B o out (n + 1) → XW E p l e R s m args below meth c 7 mc ms Q G' kc0 ks0 1519 [some (.ref bS), some (.ref (B 0)), some (.ref o), some (.ref out), some (.int (i32 i)), a5, a6] []) : XW E p l e R s m args below meth c 7 mc ms Q G kc ks 864 [some (.ref bS), some (.ref (B 0)), some (.ref o), some (.ref out), some (.int (i32 i)), b5, b6] [] := by
  obtain ⟨hM, hK, hZ, hP, hI⟩ := h
  have h : rkLw G B o out n := ⟨hM, hK, hZ, hP, hI⟩
  obtain ⟨iH, iA, iAd, iHl, iP, iS, ir, iU⟩ := hZ.1.2.2.2.2
  have hT : gR G 0 0 ≤ 900000000 := by have := hI.2.2.2.2; omega
  have h53 : gR G 53 0 ≤ 240 := by have a1 := hI.1.2.2.2.2.2.2.1; have a2 := hI.2.1.1; omega
  have kx : gK G (B 0) = 14 := hZ.1.1.1.1
  refine x_aload_n 865 C dL_law_864 rfl rfl ?_
  refine x_arg 871 1 C hX hbl hE hi (by decide) dL_law_865 dL_law_866 dL_law_868 dL_law_869 dL_law_870 rfl rfl rfl ?_
  refine x_arg 877 2 C hX hbl hE hi (by decide) dL_law_871 dL_law_872 dL_law_874 dL_law_875 dL_law_876 rfl rfl rfl ?_
  refine x_arg 883 3 C hX hbl hE hi (by decide) dL_law_877 dL_law_878 dL_law_880 dL_law_881 dL_law_882 rfl rfl rfl ?_
  refine x_aload_n 884 C dL_law_883 rfl rfl ?_
  have hlf := lf_page (a := (lwX xs i 1)) (b := (lwX xs i 2)) (c := (lwX xs i 3)) hZ hP hI
  refine x_callSH (As := [_, _, _, _, _]) 887 kc0 ks0 C hw_L_page iniL tw_L_page lk_L_129 nd_L_page (c_L_page kx (mx_mono (c_X11_page hZ.1 (lwI xs i 1) (lwI xs i 2) (lwI xs i 3) hl) (fun v G' z => ⟨z.1, z.2.1, hlf.2.2 G' z.2⟩)) (fun G' z => (z.1.1 out (by rw [hK]; decide)).trans hK) (iv_page ir) ic_page.2) dL_law_884 rfl rfl rfl ⟨by omega, by omega⟩ (Nat.le_of_ble_eq_true rfl) ⟨by omega, by omega⟩ (fun v G1 hq => ?_)
  obtain ⟨rfl, hq⟩ := hq
  obtain ⟨hL, hM1, hx1, ho1, hg1, hv1⟩ := rkLw_go h hq hlf.2.1
  refine x_as (G' := wR G1 (gR G)) (by rw [← hg1]; rfl) rfl rfl ?_
  refine x_istore 889 C dL_law_887 rfl rfl rfl ?_
  refine x_aload_n 890 C dL_law_889 rfl rfl ?_
  refine x_arg 896 1 C hX hbl hE hi (by decide) dL_law_890 dL_law_891 dL_law_893 dL_law_894 dL_law_895 rfl rfl rfl ?_
  refine x_arg 902 2 C hX hbl hE hi (by decide) dL_law_896 dL_law_897 dL_law_899 dL_law_900 dL_law_901 rfl rfl rfl ?_
  refine x_arg 908 3 C hX hbl hE hi (by decide) dL_law_902 dL_law_903 dL_law_905 dL_law_906 dL_law_907 rfl rfl rfl ?_
  refine x_Vr (As := [_, _, _]) 911 C vw_L_132 iw_X12_page sw_X12_page (c_X12_page (R := gR G) hM1 (lwI xs i 1) (lwI xs i 2) (lwI xs i 3) iA iP) dL_law_908 rfl rfl rfl rfl rfl rfl hM1.1 ⟨by omega, by omega⟩ (Nat.le_of_ble_eq_true rfl) ?_
  refine x_istore 913 C dL_law_911 rfl rfl rfl ?_
  exact x_tail (pc := 913) C hRm hM1 ho1 hlf.1 (ic_in ic_page (by decide)) (iv_page ir) hv1 dL_law_913 dL_law_914 dL_law_917 dL_law_919 dL_law_924 dL_law_926 dL_law_929 dL_law_930 dL_law_931 dL_law_932 dL_law_934 dL_law_935 dL_law_936 dL_law_941 (by decide) (k _ _ _ hL)
set_option maxHeartbeats 2000000 in
set_option maxRecDepth 100000 in
theorem lw_request (C : CX E p R s m args meth c cL_law 7 RL mc ms ret) (hRm : 12 ≤ R.frames ∧ 400 ≤ R.locals) (hX : va_X bS LS xs s s.heap) (hbl : bS < s.heap.size) (hE : s.heap.size ≤ E.2.2.1) (hi : 0 ≤ i ∧ i + 8 ≤ LS ∧ LS ≤ 4096) (h : rkLw G B o out n) (hn : 0 ≤ n ∧ n ≤ 600) (hl : l.stackTraces = false) (hkc : kc0 + 71 ≤ kc ∧ ks0 + 10086 ≤ ks)
    (k : ∀ (G' : GT) (a5 a6 : Option Value), rkLw G' B o out (n + 1) → XW E p l e R s m args below meth c 7 mc ms Q G' kc0 ks0 1519 [some (.ref bS), some (.ref (B 0)), some (.ref o), some (.ref out), some (.int (i32 i)), a5, a6] []) : XW E p l e R s m args below meth c 7 mc ms Q G kc ks 944 [some (.ref bS), some (.ref (B 0)), some (.ref o), some (.ref out), some (.int (i32 i)), b5, b6] [] := by
  obtain ⟨hM, hK, hZ, hP, hI⟩ := h
  have h : rkLw G B o out n := ⟨hM, hK, hZ, hP, hI⟩
  obtain ⟨iH, iA, iAd, iHl, iP, iS, ir, iU⟩ := hZ.1.2.2.2.2
  have hT : gR G 0 0 ≤ 900000000 := by have := hI.2.2.2.2; omega
  have h53 : gR G 53 0 ≤ 240 := by have a1 := hI.1.2.2.2.2.2.2.1; have a2 := hI.2.1.1; omega
  have kx : gK G (B 0) = 14 := hZ.1.1.1.1
  refine x_aload_n 945 C dL_law_944 rfl rfl ?_
  refine x_arg 951 1 C hX hbl hE hi (by decide) dL_law_945 dL_law_946 dL_law_948 dL_law_949 dL_law_950 rfl rfl rfl ?_
  refine x_arg 957 2 C hX hbl hE hi (by decide) dL_law_951 dL_law_952 dL_law_954 dL_law_955 dL_law_956 rfl rfl rfl ?_
  refine x_arg 963 3 C hX hbl hE hi (by decide) dL_law_957 dL_law_958 dL_law_960 dL_law_961 dL_law_962 rfl rfl rfl ?_
  refine x_arg 969 4 C hX hbl hE hi (by decide) dL_law_963 dL_law_964 dL_law_966 dL_law_967 dL_law_968 rfl rfl rfl ?_
  refine x_arg 975 5 C hX hbl hE hi (by decide) dL_law_969 dL_law_970 dL_law_972 dL_law_973 dL_law_974 rfl rfl rfl ?_
  refine x_argb 982 6 C hX hbl hE hi (by decide) dL_law_975 dL_law_976 dL_law_978 dL_law_980 dL_law_981 rfl rfl rfl ?_
  refine x_flag 990 C dL_law_982 dL_law_985 dL_law_986 dL_law_989 rfl (lwI xs i 6) ?_
  refine x_aload_n 991 C dL_law_990 rfl rfl ?_
  have hlf := lf_rq (pg := (lwX xs i 1)) (ad := (lwX xs i 2)) (me := (lwX xs i 3)) (mo := (lwX xs i 4)) (cr := (lwX xs i 5)) (hd := (lwF (lwX xs i 6))) hZ hP hI
  refine x_callSH (As := [_, _, _, _, _, _, _, _]) 994 kc0 ks0 C hw_L_request iniL tw_L_request lk_L_133 nd_L_request (c_L_request kx (mx_mono (c_X11_request hZ hP hI.1 hI.2.1 (fun j _ _ => hI.2.2.2.1 j.toNat) hT (lwI xs i 1) (lwI xs i 2) (lwI xs i 3) (lwI xs i 4) (lwI xs i 5) (lwF_01 _) hl) (fun v G' z => ⟨z.1, z.2.1, hlf.2.2 G' z.2⟩)) (fun G' z => (z.1.1 out (by rw [hK]; decide)).trans hK) (iv_rq hZ hI) ic_rq.2) dL_law_991 rfl rfl rfl ⟨by omega, by omega⟩ (Nat.le_of_ble_eq_true rfl) ⟨by omega, by omega⟩ (fun v G1 hq => ?_)
  obtain ⟨rfl, hq⟩ := hq
  obtain ⟨hL, hM1, hx1, ho1, hg1, hv1⟩ := rkLw_go h hq hlf.2.1
  refine x_as (G' := wR G1 (gR G)) (by rw [← hg1]; rfl) rfl rfl ?_
  refine x_istore 996 C dL_law_994 rfl rfl rfl ?_
  refine x_aload_n 997 C dL_law_996 rfl rfl ?_
  refine x_arg 1003 1 C hX hbl hE hi (by decide) dL_law_997 dL_law_998 dL_law_1000 dL_law_1001 dL_law_1002 rfl rfl rfl ?_
  refine x_arg 1009 2 C hX hbl hE hi (by decide) dL_law_1003 dL_law_1004 dL_law_1006 dL_law_1007 dL_law_1008 rfl rfl rfl ?_
  refine x_arg 1015 3 C hX hbl hE hi (by decide) dL_law_1009 dL_law_1010 dL_law_1012 dL_law_1013 dL_law_1014 rfl rfl rfl ?_
  refine x_arg 1021 4 C hX hbl hE hi (by decide) dL_law_1015 dL_law_1016 dL_law_1018 dL_law_1019 dL_law_1020 rfl rfl rfl ?_
  refine x_arg 1027 5 C hX hbl hE hi (by decide) dL_law_1021 dL_law_1022 dL_law_1024 dL_law_1025 dL_law_1026 rfl rfl rfl ?_
  refine x_argb 1034 6 C hX hbl hE hi (by decide) dL_law_1027 dL_law_1028 dL_law_1030 dL_law_1032 dL_law_1033 rfl rfl rfl ?_
  refine x_flag 1042 C dL_law_1034 dL_law_1037 dL_law_1038 dL_law_1041 rfl (lwI xs i 6) ?_
  refine x_Vr (As := [_, _, _, _, _, _]) 1045 C vw_L_136 iw_X12_request sw_X12_request (c_X12_request (R := gR G) hM1 (lwI xs i 1) (lwI xs i 2) (lwI xs i 3) (lwI xs i 4) (lwI xs i 5) (lwF_01 _) iH iA iAd iP iS hI.1 hI.2.1.1 (fun j _ => (hI.2.2.2.1 j).2)) dL_law_1042 rfl rfl rfl rfl rfl rfl hM1.1 ⟨by omega, by omega⟩ (Nat.le_of_ble_eq_true rfl) ?_
  refine x_istore 1047 C dL_law_1045 rfl rfl rfl ?_
  exact x_tail (pc := 1047) C hRm hM1 ho1 hlf.1 (ic_in ic_rq (by decide)) (iv_rq hZ hI) hv1 dL_law_1047 dL_law_1048 dL_law_1051 dL_law_1053 dL_law_1058 dL_law_1060 dL_law_1063 dL_law_1064 dL_law_1065 dL_law_1066 dL_law_1068 dL_law_1069 dL_law_1070 dL_law_1075 (by decide) (k _ _ _ hL)
set_option maxHeartbeats 2000000 in
set_option maxRecDepth 100000 in
theorem lw_pass (C : CX E p R s m args meth c cL_law 7 RL mc ms ret) (hRm : 12 ≤ R.frames ∧ 400 ≤ R.locals) (hX : va_X bS LS xs s s.heap) (hbl : bS < s.heap.size) (hE : s.heap.size ≤ E.2.2.1) (hi : 0 ≤ i ∧ i + 8 ≤ LS ∧ LS ≤ 4096) (h : rkLw G B o out n) (hn : 0 ≤ n ∧ n ≤ 600) (hl : l.stackTraces = false) (hkc : kc0 + 71 ≤ kc ∧ ks0 + 10086 ≤ ks)
    (k : ∀ (G' : GT) (a5 a6 : Option Value), rkLw G' B o out (n + 1) → XW E p l e R s m args below meth c 7 mc ms Q G' kc0 ks0 1519 [some (.ref bS), some (.ref (B 0)), some (.ref o), some (.ref out), some (.int (i32 i)), a5, a6] []) : XW E p l e R s m args below meth c 7 mc ms Q G kc ks 1078 [some (.ref bS), some (.ref (B 0)), some (.ref o), some (.ref out), some (.int (i32 i)), b5, b6] [] := by
  obtain ⟨hM, hK, hZ, hP, hI⟩ := h
  have h : rkLw G B o out n := ⟨hM, hK, hZ, hP, hI⟩
  obtain ⟨iH, iA, iAd, iHl, iP, iS, ir, iU⟩ := hZ.1.2.2.2.2
  have hT : gR G 0 0 ≤ 900000000 := by have := hI.2.2.2.2; omega
  have h53 : gR G 53 0 ≤ 240 := by have a1 := hI.1.2.2.2.2.2.2.1; have a2 := hI.2.1.1; omega
  have kx : gK G (B 0) = 14 := hZ.1.1.1.1
  refine x_aload_n 1079 C dL_law_1078 rfl rfl ?_
  refine x_arg 1085 1 C hX hbl hE hi (by decide) dL_law_1079 dL_law_1080 dL_law_1082 dL_law_1083 dL_law_1084 rfl rfl rfl ?_
  refine x_aload_n 1086 C dL_law_1085 rfl rfl ?_
  have hlf := lf_pass (t := (lwX xs i 1)) hn.2 hZ hP hI
  refine x_callSH (As := [_, _, _]) 1089 kc0 ks0 C hw_L_pass iniL tw_L_pass lk_L_137 nd_L_pass (c_L_pass kx (mx_mono (c_X11_pass hZ.1 hZ.2.1 hZ.2.2.1 hZ.2.2.2.2.1 hZ.2.2.2.2.2.2.1 ⟨hI.1.2.2.2.1.1, hT⟩ h53 (lwI xs i 1) hl) (fun v G' z => ⟨z.1, z.2.1, hlf.2.2 G' z.2⟩)) (fun G' z => (z.1.1 out (by rw [hK]; decide)).trans hK) (iv_pass ⟨hI.1.2.2.2.1.1, hT⟩)) dL_law_1086 rfl rfl rfl ⟨by omega, by omega⟩ (Nat.le_of_ble_eq_true rfl) ⟨by omega, by omega⟩ (fun v G1 hq => ?_)
  obtain ⟨rfl, hq⟩ := hq
  obtain ⟨hL, hM1, hx1, ho1, hg1, hv1⟩ := rkLw_go h hq hlf.2.1
  refine x_as (G' := wR G1 (gR G)) (by rw [← hg1]; rfl) rfl rfl ?_
  refine x_istore 1091 C dL_law_1089 rfl rfl rfl ?_
  refine x_aload_n 1092 C dL_law_1091 rfl rfl ?_
  refine x_arg 1098 1 C hX hbl hE hi (by decide) dL_law_1092 dL_law_1093 dL_law_1095 dL_law_1096 dL_law_1097 rfl rfl rfl ?_
  refine x_Vr (As := [_]) 1101 C vw_L_139 iw_X12_pass sw_X12_pass (c_X12_pass (R := gR G) hM1 (lwI xs i 1) hI.1.1.1 hI.1.2.2.2.1) dL_law_1098 rfl rfl rfl rfl rfl rfl hM1.1 ⟨by omega, by omega⟩ (Nat.le_of_ble_eq_true rfl) ?_
  refine x_istore 1103 C dL_law_1101 rfl rfl rfl ?_
  exact x_tail (pc := 1103) C hRm hM1 ho1 hlf.1 (ic_in ic_pass (by decide)) (iv_pass ⟨hI.1.2.2.2.1.1, hT⟩) hv1 dL_law_1103 dL_law_1104 dL_law_1107 dL_law_1109 dL_law_1114 dL_law_1116 dL_law_1119 dL_law_1120 dL_law_1121 dL_law_1122 dL_law_1124 dL_law_1125 dL_law_1126 dL_law_1131 (by decide) (k _ _ _ hL)
set_option maxHeartbeats 2000000 in
set_option maxRecDepth 100000 in
theorem lw_hops (C : CX E p R s m args meth c cL_law 7 RL mc ms ret) (hRm : 12 ≤ R.frames ∧ 400 ≤ R.locals) (hX : va_X bS LS xs s s.heap) (hbl : bS < s.heap.size) (hE : s.heap.size ≤ E.2.2.1) (hi : 0 ≤ i ∧ i + 8 ≤ LS ∧ LS ≤ 4096) (h : rkLw G B o out n) (hn : 0 ≤ n ∧ n ≤ 600) (hl : l.stackTraces = false) (hkc : kc0 + 71 ≤ kc ∧ ks0 + 10086 ≤ ks)
    (k : ∀ (G' : GT) (a5 a6 : Option Value), rkLw G' B o out (n + 1) → XW E p l e R s m args below meth c 7 mc ms Q G' kc0 ks0 1519 [some (.ref bS), some (.ref (B 0)), some (.ref o), some (.ref out), some (.int (i32 i)), a5, a6] []) : XW E p l e R s m args below meth c 7 mc ms Q G kc ks 1134 [some (.ref bS), some (.ref (B 0)), some (.ref o), some (.ref out), some (.int (i32 i)), b5, b6] [] := by
  obtain ⟨hM, hK, hZ, hP, hI⟩ := h
  have h : rkLw G B o out n := ⟨hM, hK, hZ, hP, hI⟩
  obtain ⟨iH, iA, iAd, iHl, iP, iS, ir, iU⟩ := hZ.1.2.2.2.2
  have hT : gR G 0 0 ≤ 900000000 := by have := hI.2.2.2.2; omega
  have h53 : gR G 53 0 ≤ 240 := by have a1 := hI.1.2.2.2.2.2.2.1; have a2 := hI.2.1.1; omega
  have kx : gK G (B 0) = 14 := hZ.1.1.1.1
  refine x_aload_n 1135 C dL_law_1134 rfl rfl ?_
  refine x_arg 1141 1 C hX hbl hE hi (by decide) dL_law_1135 dL_law_1136 dL_law_1138 dL_law_1139 dL_law_1140 rfl rfl rfl ?_
  refine x_aload_n 1142 C dL_law_1141 rfl rfl ?_
  have hlf := lf_look (c := rReqC (gR G) (lwX xs i 1)) hZ hP hI (ic_3 ic_req (by decide))
  refine x_callSH (As := [_, _, _]) 1145 kc0 ks0 C hw_L_hops iniL tw_L_hops lk_L_140 nd_L_hops (c_L_hops kx (mx_mono (c_X11_hops hZ.1 hP.1 (lwI xs i 1) hl) (fun v G' z => ⟨z.1, z.2.1, hlf.2.2 G' z.2⟩)) (fun G' z => (z.1.1 out (by rw [hK]; decide)).trans hK) (iv_hops ir) ic_req.2) dL_law_1142 rfl rfl rfl ⟨by omega, by omega⟩ (Nat.le_of_ble_eq_true rfl) ⟨by omega, by omega⟩ (fun v G1 hq => ?_)
  obtain ⟨rfl, hq⟩ := hq
  obtain ⟨hL, hM1, hx1, ho1, hg1, hv1⟩ := rkLw_go h hq hlf.2.1
  refine x_as (G' := wR G1 (gR G)) (by rw [← hg1]; rfl) rfl rfl ?_
  refine x_istore 1147 C dL_law_1145 rfl rfl rfl ?_
  refine x_aload_n 1148 C dL_law_1147 rfl rfl ?_
  refine x_arg 1154 1 C hX hbl hE hi (by decide) dL_law_1148 dL_law_1149 dL_law_1151 dL_law_1152 dL_law_1153 rfl rfl rfl ?_
  refine x_Vr (As := [_]) 1157 C vw_L_142 iw_X12_hops sw_X12_hops (c_X12_hops (R := gR G) hM1 (lwI xs i 1) hI.2.1) dL_law_1154 rfl rfl rfl rfl rfl rfl hM1.1 ⟨by omega, by omega⟩ (Nat.le_of_ble_eq_true rfl) ?_
  refine x_istore 1159 C dL_law_1157 rfl rfl rfl ?_
  exact x_tail (pc := 1159) C hRm hM1 ho1 hlf.1 (ic_in ic_req (by decide)) (iv_hops ir) hv1 dL_law_1159 dL_law_1160 dL_law_1163 dL_law_1165 dL_law_1170 dL_law_1172 dL_law_1175 dL_law_1176 dL_law_1177 dL_law_1178 dL_law_1180 dL_law_1181 dL_law_1182 dL_law_1187 (by decide) (k _ _ _ hL)
set_option maxHeartbeats 2000000 in
set_option maxRecDepth 100000 in
theorem lw_hop (C : CX E p R s m args meth c cL_law 7 RL mc ms ret) (hRm : 12 ≤ R.frames ∧ 400 ≤ R.locals) (hX : va_X bS LS xs s s.heap) (hbl : bS < s.heap.size) (hE : s.heap.size ≤ E.2.2.1) (hi : 0 ≤ i ∧ i + 8 ≤ LS ∧ LS ≤ 4096) (h : rkLw G B o out n) (hn : 0 ≤ n ∧ n ≤ 600) (hl : l.stackTraces = false) (hkc : kc0 + 71 ≤ kc ∧ ks0 + 10086 ≤ ks)
    (k : ∀ (G' : GT) (a5 a6 : Option Value), rkLw G' B o out (n + 1) → XW E p l e R s m args below meth c 7 mc ms Q G' kc0 ks0 1519 [some (.ref bS), some (.ref (B 0)), some (.ref o), some (.ref out), some (.int (i32 i)), a5, a6] []) : XW E p l e R s m args below meth c 7 mc ms Q G kc ks 1190 [some (.ref bS), some (.ref (B 0)), some (.ref o), some (.ref out), some (.int (i32 i)), b5, b6] [] := by
  obtain ⟨hM, hK, hZ, hP, hI⟩ := h
  have h : rkLw G B o out n := ⟨hM, hK, hZ, hP, hI⟩
  obtain ⟨iH, iA, iAd, iHl, iP, iS, ir, iU⟩ := hZ.1.2.2.2.2
  have hT : gR G 0 0 ≤ 900000000 := by have := hI.2.2.2.2; omega
  have h53 : gR G 53 0 ≤ 240 := by have a1 := hI.1.2.2.2.2.2.2.1; have a2 := hI.2.1.1; omega
  have kx : gK G (B 0) = 14 := hZ.1.1.1.1
  refine x_aload_n 1191 C dL_law_1190 rfl rfl ?_
  refine x_arg 1197 1 C hX hbl hE hi (by decide) dL_law_1191 dL_law_1192 dL_law_1194 dL_law_1195 dL_law_1196 rfl rfl rfl ?_
  refine x_arg 1203 2 C hX hbl hE hi (by decide) dL_law_1197 dL_law_1198 dL_law_1200 dL_law_1201 dL_law_1202 rfl rfl rfl ?_
  refine x_aload_n 1204 C dL_law_1203 rfl rfl ?_
  have hlf := lf_look (c := rHopC (gR G) (lwX xs i 1) (lwX xs i 2)) hZ hP hI (ic_3 ic_hop (by decide))
  refine x_callSH (As := [_, _, _, _]) 1207 kc0 ks0 C hw_L_hop iniL tw_L_hop lk_L_143 nd_L_hop (c_L_hop kx (mx_mono (c_X11_hop hZ.1 hP.1 (lwI xs i 1) (lwI xs i 2) hl) (fun v G' z => ⟨z.1, z.2.1, hlf.2.2 G' z.2⟩)) (fun G' z => (z.1.1 out (by rw [hK]; decide)).trans hK) (iv_hop ir) ic_hop.2) dL_law_1204 rfl rfl rfl ⟨by omega, by omega⟩ (Nat.le_of_ble_eq_true rfl) ⟨by omega, by omega⟩ (fun v G1 hq => ?_)
  obtain ⟨rfl, hq⟩ := hq
  obtain ⟨hL, hM1, hx1, ho1, hg1, hv1⟩ := rkLw_go h hq hlf.2.1
  refine x_as (G' := wR G1 (gR G)) (by rw [← hg1]; rfl) rfl rfl ?_
  refine x_istore 1209 C dL_law_1207 rfl rfl rfl ?_
  refine x_aload_n 1210 C dL_law_1209 rfl rfl ?_
  refine x_arg 1216 1 C hX hbl hE hi (by decide) dL_law_1210 dL_law_1211 dL_law_1213 dL_law_1214 dL_law_1215 rfl rfl rfl ?_
  refine x_arg 1222 2 C hX hbl hE hi (by decide) dL_law_1216 dL_law_1217 dL_law_1219 dL_law_1220 dL_law_1221 rfl rfl rfl ?_
  refine x_Vr (As := [_, _]) 1225 C vw_L_145 iw_X12_hop sw_X12_hop (c_X12_hop (R := gR G) hM1 (lwI xs i 1) (lwI xs i 2) hI.2.1) dL_law_1222 rfl rfl rfl rfl rfl rfl hM1.1 ⟨by omega, by omega⟩ (Nat.le_of_ble_eq_true rfl) ?_
  refine x_istore 1227 C dL_law_1225 rfl rfl rfl ?_
  exact x_tail (pc := 1227) C hRm hM1 ho1 hlf.1 (ic_in ic_hop (by decide)) (iv_hop ir) hv1 dL_law_1227 dL_law_1228 dL_law_1231 dL_law_1233 dL_law_1238 dL_law_1240 dL_law_1243 dL_law_1244 dL_law_1245 dL_law_1246 dL_law_1248 dL_law_1249 dL_law_1250 dL_law_1255 (by decide) (k _ _ _ hL)
set_option maxHeartbeats 2000000 in
set_option maxRecDepth 100000 in
theorem lw_sent (C : CX E p R s m args meth c cL_law 7 RL mc ms ret) (hRm : 12 ≤ R.frames ∧ 400 ≤ R.locals) (hX : va_X bS LS xs s s.heap) (hbl : bS < s.heap.size) (hE : s.heap.size ≤ E.2.2.1) (hi : 0 ≤ i ∧ i + 8 ≤ LS ∧ LS ≤ 4096) (h : rkLw G B o out n) (hn : 0 ≤ n ∧ n ≤ 600) (hl : l.stackTraces = false) (hkc : kc0 + 71 ≤ kc ∧ ks0 + 10086 ≤ ks)
    (k : ∀ (G' : GT) (a5 a6 : Option Value), rkLw G' B o out (n + 1) → XW E p l e R s m args below meth c 7 mc ms Q G' kc0 ks0 1519 [some (.ref bS), some (.ref (B 0)), some (.ref o), some (.ref out), some (.int (i32 i)), a5, a6] []) : XW E p l e R s m args below meth c 7 mc ms Q G kc ks 1258 [some (.ref bS), some (.ref (B 0)), some (.ref o), some (.ref out), some (.int (i32 i)), b5, b6] [] := by
  obtain ⟨hM, hK, hZ, hP, hI⟩ := h
  have h : rkLw G B o out n := ⟨hM, hK, hZ, hP, hI⟩
  obtain ⟨iH, iA, iAd, iHl, iP, iS, ir, iU⟩ := hZ.1.2.2.2.2
  have hT : gR G 0 0 ≤ 900000000 := by have := hI.2.2.2.2; omega
  have h53 : gR G 53 0 ≤ 240 := by have a1 := hI.1.2.2.2.2.2.2.1; have a2 := hI.2.1.1; omega
  have kx : gK G (B 0) = 14 := hZ.1.1.1.1
  refine x_aload_n 1259 C dL_law_1258 rfl rfl ?_
  refine x_arg 1265 1 C hX hbl hE hi (by decide) dL_law_1259 dL_law_1260 dL_law_1262 dL_law_1263 dL_law_1264 rfl rfl rfl ?_
  refine x_arg 1271 2 C hX hbl hE hi (by decide) dL_law_1265 dL_law_1266 dL_law_1268 dL_law_1269 dL_law_1270 rfl rfl rfl ?_
  refine x_arg 1277 3 C hX hbl hE hi (by decide) dL_law_1271 dL_law_1272 dL_law_1274 dL_law_1275 dL_law_1276 rfl rfl rfl ?_
  refine x_aload_n 1278 C dL_law_1277 rfl rfl ?_
  have hlf := lf_look (c := rSentC (gR G) (lwX xs i 1) (lwX xs i 2) (lwX xs i 3)) hZ hP hI (ic_3 ic_sent (by decide))
  refine x_callSH (As := [_, _, _, _, _]) 1281 kc0 ks0 C hw_L_sent iniL tw_L_sent lk_L_146 nd_L_sent (c_L_sent kx (mx_mono (c_X11_sent hZ.1 hP.1 (lwI xs i 1) (lwI xs i 2) (lwI xs i 3) hl) (fun v G' z => ⟨z.1, z.2.1, hlf.2.2 G' z.2⟩)) (fun G' z => (z.1.1 out (by rw [hK]; decide)).trans hK) (iv_sent ir) ic_sent.2) dL_law_1278 rfl rfl rfl ⟨by omega, by omega⟩ (Nat.le_of_ble_eq_true rfl) ⟨by omega, by omega⟩ (fun v G1 hq => ?_)
  obtain ⟨rfl, hq⟩ := hq
  obtain ⟨hL, hM1, hx1, ho1, hg1, hv1⟩ := rkLw_go h hq hlf.2.1
  refine x_as (G' := wR G1 (gR G)) (by rw [← hg1]; rfl) rfl rfl ?_
  refine x_istore 1283 C dL_law_1281 rfl rfl rfl ?_
  refine x_aload_n 1284 C dL_law_1283 rfl rfl ?_
  refine x_arg 1290 1 C hX hbl hE hi (by decide) dL_law_1284 dL_law_1285 dL_law_1287 dL_law_1288 dL_law_1289 rfl rfl rfl ?_
  refine x_arg 1296 2 C hX hbl hE hi (by decide) dL_law_1290 dL_law_1291 dL_law_1293 dL_law_1294 dL_law_1295 rfl rfl rfl ?_
  refine x_arg 1302 3 C hX hbl hE hi (by decide) dL_law_1296 dL_law_1297 dL_law_1299 dL_law_1300 dL_law_1301 rfl rfl rfl ?_
  refine x_Vr (As := [_, _, _]) 1305 C vw_L_148 iw_X12_sent sw_X12_sent (c_X12_sent (R := gR G) hM1 (lwI xs i 1) (lwI xs i 2) (lwI xs i 3) hI.2.1) dL_law_1302 rfl rfl rfl rfl rfl rfl hM1.1 ⟨by omega, by omega⟩ (Nat.le_of_ble_eq_true rfl) ?_
  refine x_istore 1307 C dL_law_1305 rfl rfl rfl ?_
  exact x_tail (pc := 1307) C hRm hM1 ho1 hlf.1 (ic_in ic_sent (by decide)) (iv_sent ir) hv1 dL_law_1307 dL_law_1308 dL_law_1311 dL_law_1313 dL_law_1318 dL_law_1320 dL_law_1323 dL_law_1324 dL_law_1325 dL_law_1326 dL_law_1328 dL_law_1329 dL_law_1330 dL_law_1335 (by decide) (k _ _ _ hL)
set_option maxHeartbeats 2000000 in
set_option maxRecDepth 100000 in
theorem lw_judged (C : CX E p R s m args meth c cL_law 7 RL mc ms ret) (hRm : 12 ≤ R.frames ∧ 400 ≤ R.locals) (hX : va_X bS LS xs s s.heap) (hbl : bS < s.heap.size) (hE : s.heap.size ≤ E.2.2.1) (hi : 0 ≤ i ∧ i + 8 ≤ LS ∧ LS ≤ 4096) (h : rkLw G B o out n) (hn : 0 ≤ n ∧ n ≤ 600) (hl : l.stackTraces = false) (hkc : kc0 + 71 ≤ kc ∧ ks0 + 10086 ≤ ks)
    (k : ∀ (G' : GT) (a5 a6 : Option Value), rkLw G' B o out (n + 1) → XW E p l e R s m args below meth c 7 mc ms Q G' kc0 ks0 1519 [some (.ref bS), some (.ref (B 0)), some (.ref o), some (.ref out), some (.int (i32 i)), a5, a6] []) : XW E p l e R s m args below meth c 7 mc ms Q G kc ks 1338 [some (.ref bS), some (.ref (B 0)), some (.ref o), some (.ref out), some (.int (i32 i)), b5, b6] [] := by
  obtain ⟨hM, hK, hZ, hP, hI⟩ := h
  have h : rkLw G B o out n := ⟨hM, hK, hZ, hP, hI⟩
  obtain ⟨iH, iA, iAd, iHl, iP, iS, ir, iU⟩ := hZ.1.2.2.2.2
  have hT : gR G 0 0 ≤ 900000000 := by have := hI.2.2.2.2; omega
  have h53 : gR G 53 0 ≤ 240 := by have a1 := hI.1.2.2.2.2.2.2.1; have a2 := hI.2.1.1; omega
  have kx : gK G (B 0) = 14 := hZ.1.1.1.1
  refine x_aload_n 1339 C dL_law_1338 rfl rfl ?_
  refine x_arg 1345 1 C hX hbl hE hi (by decide) dL_law_1339 dL_law_1340 dL_law_1342 dL_law_1343 dL_law_1344 rfl rfl rfl ?_
  refine x_aload_n 1346 C dL_law_1345 rfl rfl ?_
  have hlf := lf_look (c := rReqC (gR G) (lwX xs i 1)) hZ hP hI (ic_3 ic_req (by decide))
  refine x_callSH (As := [_, _, _]) 1349 kc0 ks0 C hw_L_judged iniL tw_L_judged lk_L_149 nd_L_judged (c_L_judged kx (mx_mono (c_X11_judged hZ.1 hP (lwI xs i 1) hl) (fun v G' z => ⟨z.1, z.2.1, hlf.2.2 G' z.2⟩)) (fun G' z => (z.1.1 out (by rw [hK]; decide)).trans hK) (iv_judged ir) ic_req.2) dL_law_1346 rfl rfl rfl ⟨by omega, by omega⟩ (Nat.le_of_ble_eq_true rfl) ⟨by omega, by omega⟩ (fun v G1 hq => ?_)
  obtain ⟨rfl, hq⟩ := hq
  obtain ⟨hL, hM1, hx1, ho1, hg1, hv1⟩ := rkLw_go h hq hlf.2.1
  refine x_as (G' := wR G1 (gR G)) (by rw [← hg1]; rfl) rfl rfl ?_
  refine x_istore 1351 C dL_law_1349 rfl rfl rfl ?_
  refine x_aload_n 1352 C dL_law_1351 rfl rfl ?_
  refine x_arg 1358 1 C hX hbl hE hi (by decide) dL_law_1352 dL_law_1353 dL_law_1355 dL_law_1356 dL_law_1357 rfl rfl rfl ?_
  refine x_Vr (As := [_]) 1361 C vw_L_151 iw_X12_judged sw_X12_judged (c_X12_judged (R := gR G) hM1 (lwI xs i 1) hI.2.1) dL_law_1358 rfl rfl rfl rfl rfl rfl hM1.1 ⟨by omega, by omega⟩ (Nat.le_of_ble_eq_true rfl) ?_
  refine x_istore 1363 C dL_law_1361 rfl rfl rfl ?_
  exact x_tail (pc := 1363) C hRm hM1 ho1 hlf.1 (ic_in ic_req (by decide)) (iv_judged ir) hv1 dL_law_1363 dL_law_1364 dL_law_1367 dL_law_1369 dL_law_1374 dL_law_1376 dL_law_1379 dL_law_1380 dL_law_1381 dL_law_1382 dL_law_1384 dL_law_1385 dL_law_1386 dL_law_1391 (by decide) (k _ _ _ hL)
set_option maxHeartbeats 2000000 in
set_option maxRecDepth 100000 in
theorem lw_cookie (C : CX E p R s m args meth c cL_law 7 RL mc ms ret) (hRm : 12 ≤ R.frames ∧ 400 ≤ R.locals) (hX : va_X bS LS xs s s.heap) (hbl : bS < s.heap.size) (hE : s.heap.size ≤ E.2.2.1) (hi : 0 ≤ i ∧ i + 8 ≤ LS ∧ LS ≤ 4096) (h : rkLw G B o out n) (hn : 0 ≤ n ∧ n ≤ 600) (hl : l.stackTraces = false) (hkc : kc0 + 71 ≤ kc ∧ ks0 + 10086 ≤ ks)
    (k : ∀ (G' : GT) (a5 a6 : Option Value), rkLw G' B o out (n + 1) → XW E p l e R s m args below meth c 7 mc ms Q G' kc0 ks0 1519 [some (.ref bS), some (.ref (B 0)), some (.ref o), some (.ref out), some (.int (i32 i)), a5, a6] []) : XW E p l e R s m args below meth c 7 mc ms Q G kc ks 1407 [some (.ref bS), some (.ref (B 0)), some (.ref o), some (.ref out), some (.int (i32 i)), b5, b6] [] := by
  obtain ⟨hM, hK, hZ, hP, hI⟩ := h
  have h : rkLw G B o out n := ⟨hM, hK, hZ, hP, hI⟩
  obtain ⟨iH, iA, iAd, iHl, iP, iS, ir, iU⟩ := hZ.1.2.2.2.2
  have hT : gR G 0 0 ≤ 900000000 := by have := hI.2.2.2.2; omega
  have h53 : gR G 53 0 ≤ 240 := by have a1 := hI.1.2.2.2.2.2.2.1; have a2 := hI.2.1.1; omega
  have kx : gK G (B 0) = 14 := hZ.1.1.1.1
  refine x_aload_n 1408 C dL_law_1407 rfl rfl ?_
  refine x_arg 1414 1 C hX hbl hE hi (by decide) dL_law_1408 dL_law_1409 dL_law_1411 dL_law_1412 dL_law_1413 rfl rfl rfl ?_
  refine x_aload_n 1415 C dL_law_1414 rfl rfl ?_
  have hlf := lf_look (c := rCkC (gR G) (lwX xs i 1)) hZ hP hI (ic_3 ic_cookie (by decide))
  refine x_callSH (As := [_, _, _]) 1418 kc0 ks0 C hw_L_cookie iniL tw_L_cookie lk_L_156 nd_L_cookie (c_L_cookie kx (mx_mono (c_X11_cookie hZ.1 hZ.2.1 hI.1.1 (lwI xs i 1) hl) (fun v G' z => ⟨z.1, z.2.1, hlf.2.2 G' z.2⟩)) (fun G' z => (z.1.1 out (by rw [hK]; decide)).trans hK) (iv_cookie iH hI.1.1) ic_cookie.2) dL_law_1415 rfl rfl rfl ⟨by omega, by omega⟩ (Nat.le_of_ble_eq_true rfl) ⟨by omega, by omega⟩ (fun v G1 hq => ?_)
  obtain ⟨rfl, hq⟩ := hq
  obtain ⟨hL, hM1, hx1, ho1, hg1, hv1⟩ := rkLw_go h hq hlf.2.1
  refine x_as (G' := wR G1 (gR G)) (by rw [← hg1]; rfl) rfl rfl ?_
  refine x_istore 1420 C dL_law_1418 rfl rfl rfl ?_
  refine x_aload_n 1421 C dL_law_1420 rfl rfl ?_
  refine x_arg 1427 1 C hX hbl hE hi (by decide) dL_law_1421 dL_law_1422 dL_law_1424 dL_law_1425 dL_law_1426 rfl rfl rfl ?_
  refine x_Vr (As := [_]) 1430 C vw_L_158 iw_X12_cookie sw_X12_cookie (c_X12_cookie (R := gR G) hM1 (lwI xs i 1) hI.1.1) dL_law_1427 rfl rfl rfl rfl rfl rfl hM1.1 ⟨by omega, by omega⟩ (Nat.le_of_ble_eq_true rfl) ?_
  refine x_istore 1432 C dL_law_1430 rfl rfl rfl ?_
  exact x_tail (pc := 1432) C hRm hM1 ho1 hlf.1 (ic_in ic_cookie (by decide)) (iv_cookie iH hI.1.1) hv1 dL_law_1432 dL_law_1433 dL_law_1436 dL_law_1438 dL_law_1443 dL_law_1445 dL_law_1448 dL_law_1449 dL_law_1450 dL_law_1451 dL_law_1453 dL_law_1454 dL_law_1455 dL_law_1460 (by decide) (k _ _ _ hL)
set_option maxHeartbeats 2000000 in
set_option maxRecDepth 100000 in
theorem lw_count (C : CX E p R s m args meth c cL_law 7 RL mc ms ret) (hRm : 12 ≤ R.frames ∧ 400 ≤ R.locals) (hX : va_X bS LS xs s s.heap) (hbl : bS < s.heap.size) (hE : s.heap.size ≤ E.2.2.1) (hi : 0 ≤ i ∧ i + 8 ≤ LS ∧ LS ≤ 4096) (h : rkLw G B o out n) (hn : 0 ≤ n ∧ n ≤ 600) (hl : l.stackTraces = false) (hkc : kc0 + 71 ≤ kc ∧ ks0 + 10086 ≤ ks)
    (k : ∀ (G' : GT) (a5 a6 : Option Value), rkLw G' B o out (n + 1) → XW E p l e R s m args below meth c 7 mc ms Q G' kc0 ks0 1519 [some (.ref bS), some (.ref (B 0)), some (.ref o), some (.ref out), some (.int (i32 i)), a5, a6] []) : XW E p l e R s m args below meth c 7 mc ms Q G kc ks 1463 [some (.ref bS), some (.ref (B 0)), some (.ref o), some (.ref out), some (.int (i32 i)), b5, b6] [] := by
  obtain ⟨hM, hK, hZ, hP, hI⟩ := h
  have h : rkLw G B o out n := ⟨hM, hK, hZ, hP, hI⟩
  obtain ⟨iH, iA, iAd, iHl, iP, iS, ir, iU⟩ := hZ.1.2.2.2.2
  have hT : gR G 0 0 ≤ 900000000 := by have := hI.2.2.2.2; omega
  have h53 : gR G 53 0 ≤ 240 := by have a1 := hI.1.2.2.2.2.2.2.1; have a2 := hI.2.1.1; omega
  have kx : gK G (B 0) = 14 := hZ.1.1.1.1
  refine x_aload_n 1464 C dL_law_1463 rfl rfl ?_
  refine x_arg 1470 1 C hX hbl hE hi (by decide) dL_law_1464 dL_law_1465 dL_law_1467 dL_law_1468 dL_law_1469 rfl rfl rfl ?_
  refine x_aload_n 1471 C dL_law_1470 rfl rfl ?_
  have hlf := lf_look (c := rCntC (lwX xs i 1)) hZ hP hI (ic_3 ic_count (by decide))
  refine x_callSH (As := [_, _, _]) 1474 kc0 ks0 C hw_L_count iniL tw_L_count lk_L_159 nd_L_count (c_L_count kx (mx_mono (c_X11_count hZ.1 hZ.2.2.2.1 (lwI xs i 1) hZ.2.2.2.2.2.2.2 hl) (fun v G' z => ⟨z.1, z.2.1, hlf.2.2 G' z.2⟩)) (fun G' z => (z.1.1 out (by rw [hK]; decide)).trans hK) (iv_count ir)) dL_law_1471 rfl rfl rfl ⟨by omega, by omega⟩ (Nat.le_of_ble_eq_true rfl) ⟨by omega, by omega⟩ (fun v G1 hq => ?_)
  obtain ⟨rfl, hq⟩ := hq
  obtain ⟨hL, hM1, hx1, ho1, hg1, hv1⟩ := rkLw_go h hq hlf.2.1
  refine x_as (G' := wR G1 (gR G)) (by rw [← hg1]; rfl) rfl rfl ?_
  refine x_istore 1476 C dL_law_1474 rfl rfl rfl ?_
  refine x_aload_n 1477 C dL_law_1476 rfl rfl ?_
  refine x_arg 1483 1 C hX hbl hE hi (by decide) dL_law_1477 dL_law_1478 dL_law_1480 dL_law_1481 dL_law_1482 rfl rfl rfl ?_
  refine x_Vr (As := [_]) 1486 C vw_L_161 iw_X12_count sw_X12_count (c_X12_count (R := gR G) hM1 (lwI xs i 1)) dL_law_1483 rfl rfl rfl rfl rfl rfl hM1.1 ⟨by omega, by omega⟩ (Nat.le_of_ble_eq_true rfl) ?_
  refine x_istore 1488 C dL_law_1486 rfl rfl rfl ?_
  exact x_tail (pc := 1488) C hRm hM1 ho1 hlf.1 (ic_in ic_count (by decide)) (iv_count ir) hv1 dL_law_1488 dL_law_1489 dL_law_1492 dL_law_1494 dL_law_1499 dL_law_1501 dL_law_1504 dL_law_1505 dL_law_1506 dL_law_1507 dL_law_1509 dL_law_1510 dL_law_1511 dL_law_1516 (by decide) (k _ _ _ hL)
set_option maxHeartbeats 2000000 in
set_option maxRecDepth 100000 in
theorem lw_toggleBlocking (C : CX E p R s m args meth c cL_law 7 RL mc ms ret) (hRm : 12 ≤ R.frames ∧ 400 ≤ R.locals) (hX : va_X bS LS xs s s.heap) (hbl : bS < s.heap.size) (hE : s.heap.size ≤ E.2.2.1) (hi : 0 ≤ i ∧ i + 8 ≤ LS ∧ LS ≤ 4096) (h : rkLw G B o out n) (hn : 0 ≤ n ∧ n ≤ 600) (hl : l.stackTraces = false) (hkc : kc0 + 71 ≤ kc ∧ ks0 + 10086 ≤ ks)
    (k : ∀ (G' : GT) (a5 a6 : Option Value), rkLw G' B o out (n + 1) → XW E p l e R s m args below meth c 7 mc ms Q G' kc0 ks0 1519 [some (.ref bS), some (.ref (B 0)), some (.ref o), some (.ref out), some (.int (i32 i)), a5, a6] []) : XW E p l e R s m args below meth c 7 mc ms Q G kc ks 851 [some (.ref bS), some (.ref (B 0)), some (.ref o), some (.ref out), some (.int (i32 i)), b5, b6] [] := by
  obtain ⟨hM, hK, hZ, hP, hI⟩ := h
  have h : rkLw G B o out n := ⟨hM, hK, hZ, hP, hI⟩
  obtain ⟨iH, iA, iAd, iHl, iP, iS, ir, iU⟩ := hZ.1.2.2.2.2
  have hT : gR G 0 0 ≤ 900000000 := by have := hI.2.2.2.2; omega
  have h53 : gR G 53 0 ≤ 240 := by have a1 := hI.1.2.2.2.2.2.2.1; have a2 := hI.2.1.1; omega
  have kx : gK G (B 0) = 14 := hZ.1.1.1.1
  refine x_aload_n 852 C dL_law_851 rfl rfl ?_
  have hlf := lf_tog hZ hP hI
  refine x_Vr (As := []) 855 C vw_L_124 iw_X11_toggleBlocking sw_X11_toggleBlocking (c_X11_toggleBlocking hZ.1.1 hZ.2.2.2.2.2.1) dL_law_852 rfl rfl rfl rfl rfl rfl kx ⟨by omega, by omega⟩ (Nat.le_of_ble_eq_true rfl) ?_
  obtain ⟨hL, hM1, hx1, hg1⟩ := rkLw_gv (code := 0) h (Or.inl ⟨rfl, hlf⟩) (fun z => absurd rfl z)
  refine x_aload_n 856 C dL_law_855 rfl rfl ?_
  refine x_Vr (As := []) 859 C vw_L_128 iw_X12_toggleBlocking sw_X12_toggleBlocking (c_X12_toggleBlocking (R := gR G) hM1) dL_law_856 rfl rfl rfl rfl rfl rfl hM1.1 ⟨by omega, by omega⟩ (Nat.le_of_ble_eq_true rfl) ?_
  have hv : InR (if gR G 2 0 = 0 then 1 else 0) := by split <;> exact ⟨by decide, by decide⟩
  exact x_icmp_eq 862 1519 C dL_law_859 rfl (by decide) hv hv (fun _ => XW_room (by omega) (by omega) (k _ _ _ hL)) (fun z => absurd rfl z)
set_option maxHeartbeats 2000000 in
set_option maxRecDepth 100000 in
theorem lw_cookies (C : CX E p R s m args meth c cL_law 7 RL mc ms ret) (hRm : 12 ≤ R.frames ∧ 400 ≤ R.locals) (hX : va_X bS LS xs s s.heap) (hbl : bS < s.heap.size) (hE : s.heap.size ≤ E.2.2.1) (hi : 0 ≤ i ∧ i + 8 ≤ LS ∧ LS ≤ 4096) (h : rkLw G B o out n) (hn : 0 ≤ n ∧ n ≤ 600) (hl : l.stackTraces = false) (hkc : kc0 + 71 ≤ kc ∧ ks0 + 10086 ≤ ks)
    (k : ∀ (G' : GT) (a5 a6 : Option Value), rkLw G' B o out (n + 1) → XW E p l e R s m args below meth c 7 mc ms Q G' kc0 ks0 1519 [some (.ref bS), some (.ref (B 0)), some (.ref o), some (.ref out), some (.int (i32 i)), a5, a6] []) : XW E p l e R s m args below meth c 7 mc ms Q G kc ks 1394 [some (.ref bS), some (.ref (B 0)), some (.ref o), some (.ref out), some (.int (i32 i)), b5, b6] [] := by
  obtain ⟨hM, hK, hZ, hP, hI⟩ := h
  have h : rkLw G B o out n := ⟨hM, hK, hZ, hP, hI⟩
  obtain ⟨iH, iA, iAd, iHl, iP, iS, ir, iU⟩ := hZ.1.2.2.2.2
  have hT : gR G 0 0 ≤ 900000000 := by have := hI.2.2.2.2; omega
  have h53 : gR G 53 0 ≤ 240 := by have a1 := hI.1.2.2.2.2.2.2.1; have a2 := hI.2.1.1; omega
  have kx : gK G (B 0) = 14 := hZ.1.1.1.1
  refine x_aload_n 1395 C dL_law_1394 rfl rfl ?_
  have hlf := rkRel_F hZ hP hI InR_0
  refine x_Vr (As := []) 1398 C vw_L_152 iw_X11_cookies sw_X11_cookies (c_X11_cookies hZ.1.1 hZ.2.1) dL_law_1395 rfl rfl rfl rfl rfl rfl kx ⟨by omega, by omega⟩ (Nat.le_of_ble_eq_true rfl) ?_
  obtain ⟨hL, hM1, hx1, hg1⟩ := rkLw_gv (code := 0) h (Or.inl ⟨rfl, hlf⟩) (fun z => absurd rfl z)
  refine x_aload_n 1399 C dL_law_1398 rfl rfl ?_
  refine x_Vr (As := []) 1402 C vw_L_155 iw_X12_cookies sw_X12_cookies (c_X12_cookies (R := gR G) hM1) dL_law_1399 rfl rfl rfl rfl rfl rfl hM1.1 ⟨by omega, by omega⟩ (Nat.le_of_ble_eq_true rfl) ?_
  exact x_icmp_eq 1405 1519 C dL_law_1402 rfl (by decide) (ir 34 0) (ir 34 0) (fun _ => XW_room (by omega) (by omega) (k _ _ _ hL)) (fun z => absurd rfl z)
end LAWK
