/-! rows laid by program (wip/tools/gen.py) -/
set_option maxHeartbeats 1000000 in
set_option maxRecDepth 100000 in
theorem c_X12_sets {E : EV} {l : Launch} {G : GT} {R : RT} {o : Nat} {a w : Int} (hM : RM G o) (hH : RH R) (hC : RC R) (hA : RA R) (hD : RAd R) (hS : RS R) (h1 : 0 ≤ a ∧ a < R 7 0) (h3 : InR w) (h6 : 0 ≤ R 1 0 ∧ R 1 0 ≤ 2000000000) (h7 : 0 ≤ R 0 0 ∧ R 0 0 ≤ 2000000000) (h10 : R 34 0 ≤ 10) : MT E l yX12_sets cX12_sets 8 none 4 96 0 0 [.ref o, .int (i32 a), .int (i32 w)] (wR G R) (pD none (wR G (rSets R a w))) := by
  refine mt_of (own := RX12) (L := [some (.ref o), some (.int (i32 a)), some (.int (i32 w)), none, none, none, none, none]) (by decide +kernel) rfl (Nat.le_of_ble_eq_true rfl) (List.forall_mem_cons.mpr ⟨rfl, (List.forall_mem_cons.mpr ⟨rfl, (List.forall_mem_cons.mpr ⟨rfl, (fun _ h => absurd h List.not_mem_nil)⟩)⟩)⟩) rfl ?_
  intro p e s m args below meth c C hin
  refine x_wf (fun hw => ?_)
  have hr0 : ∀ k j, InR (R k j) := hw.2.2.1
  have hz0 : ∀ k j, mZ k = true → R k j = 0 ∨ R k j = 1 := hw.2.2.2.2.1
  have hh := hA.1
  have hh2 := hA.2
  have hh0 := hH.1
  have hc1 := hC.1
  obtain ⟨d1, d2, d3, d4, d5, d6, d7, d8⟩ := hD a.toNat (by omega)
  obtain ⟨s1, s2, s3, s4⟩ := hS a.toNat (by omega)
  have hwho := rStWho_in hA hD h1
  have hsi := rSiteOf_in hH hwho.1 hwho.2
  have hst := rStI_in (a := a) (w := w) hC
  have hwch : InR (rStWch R a w) := by (unfold rStWch; split; exact h3; exact ⟨by decide, by decide⟩)
  refine x_aload_n 1 C dX12_sets_0 rfl rfl ?_
  refine x_mrow 4 19 C fr_X12_53 dX12_sets_1 rfl rfl hM ?_
  refine x_iload_n 5 C dX12_sets_4 rfl rfl ?_
  refine x_mldI 6 19 C dX12_sets_5 rfl rfl hM (by first | exact hIx | exact ⟨by omega, Int.lt_of_lt_of_le (b := 24) (by omega) (by decide)⟩) ?_
  refine x_iconst 7 C dX12_sets_6 rfl ?_
  refine x_icmp_eq 10 19 C dX12_sets_7 rfl (by decide) (by first | exact hwch | exact hr1 _ _ | (split <;> omega) | exact hw.2.2.1 _ _ | exact hr0 _ _ | assumption | omega | exact ⟨by omega, by omega⟩) (by first | exact hwch | exact hr1 _ _ | (split <;> omega) | exact hw.2.2.1 _ _ | exact hr0 _ _ | assumption | omega | exact ⟨by omega, by omega⟩) (fun h7 => ?_) (fun h7 => ?_)
  · skip
    exact x_ret C dX12_sets_19 ⟨rfl, congrArg (wR G) (by rw [rSets, if_pos (by first | exact Or.inl (by omega) | exact Or.inr h16)])⟩
  · skip
    refine x_aload_n 11 C dX12_sets_10 rfl rfl ?_
    refine x_iload_n 12 C dX12_sets_11 rfl rfl ?_
    refine x_iload_n 13 C dX12_sets_12 rfl rfl ?_
    refine x_Vr (As := [_, _]) 16 C vw_X12_295 iw_X12_refuses sw_X12_refuses (c_X12_refuses hM hH hC hA hD hS (by omega) (by assumption)) dX12_sets_13 rfl rfl rfl rfl rfl rfl hM.1 ⟨Nat.le_of_ble_eq_true rfl, Nat.le_of_ble_eq_true rfl⟩ (Nat.le_of_ble_eq_true rfl) ?_
    refine x_if_eqB 19 20 C dX12_sets_16 rfl (by decide) (fun h16 => ?_) (fun h16 => ?_)
    · skip
      refine x_joinv 49 (fun vJ => vJ = bI (rStOwn R a)) ?_ (fun hJ49 => ?_)
      · intro vJ hJ
        subst hJ
        refine x_istore_n 50 C dX12_sets_49 rfl rfl rfl ?_
        refine x_joinv 69 (fun vJ => vJ = rStWho R a) ?_ (fun hJ69 => ?_)
        · intro vJ hJ
          subst hJ
          refine x_istore 71 C dX12_sets_69 rfl rfl rfl ?_
          refine x_joinv 89 (fun vJ => vJ = rStWch R a w) ?_ (fun hJ89 => ?_)
          · intro vJ hJ
            subst hJ
            refine x_istore 91 C dX12_sets_89 rfl rfl rfl ?_
            refine x_iconst 92 C dX12_sets_91 rfl ?_
            refine x_istore 94 C dX12_sets_92 rfl rfl rfl ?_
            refine x_iconst 95 C dX12_sets_94 rfl ?_
            refine x_istore 97 C dX12_sets_95 rfl rfl rfl ?_
            refine x_loop (α := Int × Int) (fun ⟨f, k⟩ => (R 34 0 - k).toNat) (fun ⟨f, k⟩ => 0 ≤ k ∧ k ≤ R 34 0 ∧ f = rStF R a (rStWho R a) (rStWch R a w) k.toNat) (fun ⟨f, k⟩ => wR G R) (fun ⟨f, k⟩ => [some (.ref o), some (.int (i32 a)), some (.int (i32 w)), some (.int (i32 (bI (rStOwn R a)))), some (.int (i32 (rStWho R a))), some (.int (i32 (rStWch R a w))), some (.int (i32 f)), some (.int (i32 k))]) (fun _ => []) (-1, 0) ⟨by decide, by omega, rfl⟩ rfl rfl rfl ?_
            intro aa hI ih
            obtain ⟨f, k⟩ := aa
            (try dsimp only at hI); (try dsimp only at ih); (try dsimp only)
            obtain ⟨i1, i2, i3⟩ := hI
            have hfi := rStF_in R a (rStWho R a) (rStWch R a w) k.toNat
            rw [← i3] at hfi
            refine x_iload 99 C dX12_sets_97 rfl rfl ?_
            refine x_aload_n 100 C dX12_sets_99 rfl rfl ?_
            refine x_mget 103 34 C fr_X12_260 dX12_sets_100 rfl rfl hM ?_
            refine x_icmp_ge 106 177 C dX12_sets_103 rfl (by decide) (by first | exact hwch | exact hr1 _ _ | (split <;> omega) | exact hw.2.2.1 _ _ | exact hr0 _ _ | assumption | omega | exact ⟨by omega, by omega⟩) (by first | exact hwch | exact hr1 _ _ | (split <;> omega) | exact hw.2.2.1 _ _ | exact hr0 _ _ | assumption | omega | exact ⟨by omega, by omega⟩) (fun h103 => ?_) (fun h103 => ?_)
            · skip
              refine x_aload_n 178 C dX12_sets_177 rfl rfl ?_
              refine x_mrow 181 23 C fr_X12_65 dX12_sets_178 rfl rfl hM ?_
              refine x_iload_n 182 C dX12_sets_181 rfl rfl ?_
              refine x_mldI 183 23 C dX12_sets_182 rfl rfl hM (by first | exact hIx | exact ⟨by omega, Int.lt_of_lt_of_le (b := 24) (by omega) (by decide)⟩) ?_
              refine x_if_ge 186 199 C dX12_sets_183 rfl (by decide) (by first | exact hwch | exact hr1 _ _ | (split <;> omega) | exact hw.2.2.1 _ _ | exact hr0 _ _ | assumption | omega | exact ⟨by omega, by omega⟩) (fun h183 => ?_) (fun h183 => ?_)
              · skip
                refine x_join (α := RT × Int) 221 (fun ⟨T, z⟩ => T = rSt0 R a w) (fun ⟨T, z⟩ => wR G T) (fun ⟨T, z⟩ => [some (.ref o), some (.int (i32 a)), some (.int (i32 w)), some (.int (i32 (bI (rStOwn R a)))), some (.int (i32 (rStWho R a))), some (.int (i32 (rStWch R a w))), some (.int (i32 (rStI R a w))), some (.int (i32 z))]) (fun ⟨T, z⟩ => []) ?_ (fun hJ221 => ?_)
                · intro aa hJ
                  obtain ⟨T, z⟩ := aa
                  (try dsimp only at hJ); (try dsimp only)
                  have hT : Fs R T := by rw [hJ]; exact rSt0_Fs
                  have t0 : T 0 0 = R 0 0 := by rw [hJ]; exact rSt0_out (by decide)
                  have t1 : T 1 0 = R 1 0 := by rw [hJ]; exact rSt0_out (by decide)
                  have t23 : T 23 a.toNat = R 23 a.toNat := by rw [hJ]; exact rSt0_out (by decide)
                  refine x_wf (fun hw => ?_)
                  have hr1 : ∀ k j, InR (T k j) := hw.2.2.1
                  refine x_wf (fun hw => ?_)
                  refine x_aload_n 222 C dX12_sets_221 rfl rfl ?_
                  refine x_mrow 225 35 C fr_X12_92 dX12_sets_222 rfl rfl hM ?_
                  refine x_iload 227 C dX12_sets_225 rfl rfl ?_
                  refine x_aload_n 228 C dX12_sets_227 rfl rfl ?_
                  refine x_mrow 231 18 C fr_X12_50 dX12_sets_228 rfl rfl hM ?_
                  refine x_iload_n 232 C dX12_sets_231 rfl rfl ?_
                  refine x_mldI 233 18 C dX12_sets_232 rfl rfl hM (by first | exact hIx | exact ⟨by omega, Int.lt_of_lt_of_le (b := 24) (by omega) (by decide)⟩) ?_
                  (try simp only [u2r, false_and, and_false, true_and, and_true, ↓reduceIte, Nat.reduceEqDiff])
                  refine x_mstI 234 35 C dX12_sets_233 rfl rfl hM ⟨by omega, Int.lt_of_lt_of_le (b := 12) (by omega) (by decide)⟩ (by first | exact hwch | exact hr1 _ _ | (split <;> omega) | exact hw.2.2.1 _ _ | exact hr0 _ _ | assumption | omega | exact ⟨by omega, by omega⟩) ?_
                  refine x_wf (fun hw => ?_)
                  refine x_aload_n 235 C dX12_sets_234 rfl rfl ?_
                  refine x_mrow 238 36 C fr_X12_95 dX12_sets_235 rfl rfl hM ?_
                  refine x_iload 240 C dX12_sets_238 rfl rfl ?_
                  refine x_aload_n 241 C dX12_sets_240 rfl rfl ?_
                  refine x_mrow 244 19 C fr_X12_53 dX12_sets_241 rfl rfl hM ?_
                  refine x_iload_n 245 C dX12_sets_244 rfl rfl ?_
                  refine x_mldI 246 19 C dX12_sets_245 rfl rfl hM (by first | exact hIx | exact ⟨by omega, Int.lt_of_lt_of_le (b := 24) (by omega) (by decide)⟩) ?_
                  (try simp only [u2r, false_and, and_false, true_and, and_true, ↓reduceIte, Nat.reduceEqDiff])
                  refine x_mstI 247 36 C dX12_sets_246 rfl rfl hM ⟨by omega, Int.lt_of_lt_of_le (b := 12) (by omega) (by decide)⟩ (by first | exact hwch | exact hr1 _ _ | (split <;> omega) | exact hw.2.2.1 _ _ | exact hr0 _ _ | assumption | omega | exact ⟨by omega, by omega⟩) ?_
                  refine x_wf (fun hw => ?_)
                  refine x_aload_n 248 C dX12_sets_247 rfl rfl ?_
                  refine x_mrow 251 37 C fr_X12_98 dX12_sets_248 rfl rfl hM ?_
                  refine x_iload 253 C dX12_sets_251 rfl rfl ?_
                  refine x_iload 255 C dX12_sets_253 rfl rfl ?_
                  refine x_mstI 256 37 C dX12_sets_255 rfl rfl hM ⟨by omega, Int.lt_of_lt_of_le (b := 12) (by omega) (by decide)⟩ (by first | exact hwch | exact hr1 _ _ | (split <;> omega) | exact hw.2.2.1 _ _ | exact hr0 _ _ | assumption | omega | exact ⟨by omega, by omega⟩) ?_
                  refine x_wf (fun hw => ?_)
                  refine x_aload_n 257 C dX12_sets_256 rfl rfl ?_
                  refine x_mrow 260 38 C fr_X12_101 dX12_sets_257 rfl rfl hM ?_
                  refine x_iload 262 C dX12_sets_260 rfl rfl ?_
                  refine x_iload_n 263 C dX12_sets_262 rfl rfl ?_
                  refine x_mstZ 264 38 C dX12_sets_263 rfl rfl hM ⟨by omega, Int.lt_of_lt_of_le (b := 12) (by omega) (by decide)⟩ (by first | assumption | omega | exact bI_01 _ | exact hw.2.2.2.2.1 _ _ rfl | exact hz0 _ _ rfl) ?_
                  refine x_wf (fun hw => ?_)
                  refine x_aload_n 265 C dX12_sets_264 rfl rfl ?_
                  refine x_mrow 268 39 C fr_X12_104 dX12_sets_265 rfl rfl hM ?_
                  refine x_iload 270 C dX12_sets_268 rfl rfl ?_
                  refine x_aload_n 271 C dX12_sets_270 rfl rfl ?_
                  refine x_mrow 274 21 C fr_X12_59 dX12_sets_271 rfl rfl hM ?_
                  refine x_iload_n 275 C dX12_sets_274 rfl rfl ?_
                  refine x_mldI 276 21 C dX12_sets_275 rfl rfl hM (by first | exact hIx | exact ⟨by omega, Int.lt_of_lt_of_le (b := 24) (by omega) (by decide)⟩) ?_
                  (try simp only [u2r, false_and, and_false, true_and, and_true, ↓reduceIte, Nat.reduceEqDiff])
                  refine x_mstI 277 39 C dX12_sets_276 rfl rfl hM ⟨by omega, Int.lt_of_lt_of_le (b := 12) (by omega) (by decide)⟩ (by first | exact hwch | exact hr1 _ _ | (split <;> omega) | exact hw.2.2.1 _ _ | exact hr0 _ _ | assumption | omega | exact ⟨by omega, by omega⟩) ?_
                  refine x_wf (fun hw => ?_)
                  refine x_aload_n 278 C dX12_sets_277 rfl rfl ?_
                  refine x_mrow 281 40 C fr_X12_107 dX12_sets_278 rfl rfl hM ?_
                  refine x_iload 283 C dX12_sets_281 rfl rfl ?_
                  refine x_aload_n 284 C dX12_sets_283 rfl rfl ?_
                  refine x_mrow 287 22 C fr_X12_62 dX12_sets_284 rfl rfl hM ?_
                  refine x_iload_n 288 C dX12_sets_287 rfl rfl ?_
                  refine x_mldI 289 22 C dX12_sets_288 rfl rfl hM (by first | exact hIx | exact ⟨by omega, Int.lt_of_lt_of_le (b := 24) (by omega) (by decide)⟩) ?_
                  (try simp only [u2r, false_and, and_false, true_and, and_true, ↓reduceIte, Nat.reduceEqDiff])
                  refine x_mstI 290 40 C dX12_sets_289 rfl rfl hM ⟨by omega, Int.lt_of_lt_of_le (b := 12) (by omega) (by decide)⟩ (by first | exact hwch | exact hr1 _ _ | (split <;> omega) | exact hw.2.2.1 _ _ | exact hr0 _ _ | assumption | omega | exact ⟨by omega, by omega⟩) ?_
                  refine x_wf (fun hw => ?_)
                  refine x_aload_n 291 C dX12_sets_290 rfl rfl ?_
                  refine x_mrow 294 41 C fr_X12_110 dX12_sets_291 rfl rfl hM ?_
                  refine x_iload 296 C dX12_sets_294 rfl rfl ?_
                  refine x_iload 298 C dX12_sets_296 rfl rfl ?_
                  refine x_mstI 299 41 C dX12_sets_298 rfl rfl hM ⟨by omega, Int.lt_of_lt_of_le (b := 12) (by omega) (by decide)⟩ (by first | exact hwch | exact hr1 _ _ | (split <;> omega) | exact hw.2.2.1 _ _ | exact hr0 _ _ | assumption | omega | exact ⟨by omega, by omega⟩) ?_
                  refine x_wf (fun hw => ?_)
                  refine x_aload_n 300 C dX12_sets_299 rfl rfl ?_
                  refine x_mrow 303 42 C fr_X12_113 dX12_sets_300 rfl rfl hM ?_
                  refine x_iload 305 C dX12_sets_303 rfl rfl ?_
                  refine x_joinv 329 (fun vJ => vJ = if T 23 a.toNat = 0 then -1 else T 0 0 + T 23 a.toNat) ?_ (fun hJ329 => ?_)
                  · intro vJ hJ
                    subst hJ
                    refine x_mstI 330 42 C dX12_sets_329 rfl rfl hM ⟨by omega, Int.lt_of_lt_of_le (b := 12) (by omega) (by decide)⟩ (by first | exact hwch | exact hr1 _ _ | (split <;> omega) | exact hw.2.2.1 _ _ | exact hr0 _ _ | assumption | omega | exact ⟨by omega, by omega⟩) ?_
                    refine x_wf (fun hw => ?_)
                    refine x_aload_n 331 C dX12_sets_330 rfl rfl ?_
                    refine x_mrow 334 43 C fr_X12_116 dX12_sets_331 rfl rfl hM ?_
                    refine x_iload 336 C dX12_sets_334 rfl rfl ?_
                    refine x_aload_n 337 C dX12_sets_336 rfl rfl ?_
                    refine x_mget 340 1 C fr_X12_254 dX12_sets_337 rfl rfl hM ?_
                    (try simp only [u2r, false_and, and_false, true_and, and_true, ↓reduceIte, Nat.reduceEqDiff])
                    refine x_mstI 341 43 C dX12_sets_340 rfl rfl hM ⟨by omega, Int.lt_of_lt_of_le (b := 12) (by omega) (by decide)⟩ (by first | exact hwch | exact hr1 _ _ | (split <;> omega) | exact hw.2.2.1 _ _ | exact hr0 _ _ | assumption | omega | exact ⟨by omega, by omega⟩) ?_
                    refine x_wf (fun hw => ?_)
                    refine x_aload_n 342 C dX12_sets_341 rfl rfl ?_
                    refine x_dup 343 C dX12_sets_342 rfl rfl ?_
                    refine x_mget 346 1 C fr_X12_254 dX12_sets_343 rfl rfl hM ?_
                    (try simp only [u2r, false_and, and_false, true_and, and_true, ↓reduceIte, Nat.reduceEqDiff])
                    refine x_iconst 347 C dX12_sets_346 rfl ?_
                    refine x_iadd 348 C dX12_sets_347 rfl ?_
                    refine x_mput 351 1 C fw_X12_254 dX12_sets_348 rfl rfl rfl hM (by first | exact hwch | exact hr1 _ _ | (split <;> omega) | exact hw.2.2.1 _ _ | exact hr0 _ _ | assumption | omega | exact ⟨by omega, by omega⟩) (fun z => absurd z (by decide)) ?_
                    refine x_wf (fun hw => ?_)
                    refine x_as (G' := wR G (rSt1 R a w)) (congrArg (wR G) (by rw [rSt1, ← hJ]; rfl)) rfl rfl ?_
                    refine x_aload_n 352 C dX12_sets_351 rfl rfl ?_
                    refine x_iload 354 C dX12_sets_352 rfl rfl ?_
                    refine x_Vr (As := [_]) 357 C vw_X12_190 iw_X12_siteOf sw_X12_siteOf (c_X12_siteOf (R := rSt1 R a w) hM (rSt1_Fs.H hH) (by rw [rSt1_Fs 3 (by decide) (by decide)]; exact hwho)) dX12_sets_354 rfl rfl rfl rfl rfl rfl hM.1 ⟨Nat.le_of_ble_eq_true rfl, Nat.le_of_ble_eq_true rfl⟩ (Nat.le_of_ble_eq_true rfl) ?_
                    rw [rSt1_Fs.site]
                    refine x_istore 359 C dX12_sets_357 rfl rfl rfl ?_
                    refine x_loop (α := RT) (fun S => (S 34 0).toNat) (fun S => RC S ∧ Fs R S ∧ rE1 (rSiteOf R (rStWho R a)) (rStWch R a w) S = rE1 (rSiteOf R (rStWho R a)) (rStWch R a w) (rSt1 R a w)) (fun S => wR G S) (fun S => [some (.ref o), some (.int (i32 a)), some (.int (i32 w)), some (.int (i32 (bI (rStOwn R a)))), some (.int (i32 (rStWho R a))), some (.int (i32 (rStWch R a w))), some (.int (i32 (rStI R a w))), some (.int (i32 (rSiteOf R (rStWho R a))))]) (fun _ => []) (rSt1 R a w) ⟨rSt1_C hA hD hS hC h1 (by omega) h10, rSt1_Fs, rfl⟩ rfl rfl rfl ?_
                    intro aa hI ih
                    obtain ⟨S, rfl⟩ := (⟨aa, rfl⟩ : ∃ z, z = aa)
                    (try dsimp only at hI); (try dsimp only at ih); (try dsimp only)
                    obtain ⟨m1, m2, m3⟩ := hI
                    have ihA := ih
                    have hci := rCount_in S 0 (rSiteOf R (rStWho R a)) (rStWch R a w) (S 34 0).toNat
                    have mc := m1.1
                    refine x_aload_n 360 C dX12_sets_359 rfl rfl ?_
                    refine x_iconst 361 C dX12_sets_360 rfl ?_
                    refine x_iload 363 C dX12_sets_361 rfl rfl ?_
                    refine x_iload 365 C dX12_sets_363 rfl rfl ?_
                    refine x_Vr (As := [_, _, _]) 368 C vw_X12_298 iw_X12_among sw_X12_among (c_X12_among (R := S) hM (m2.H hH) m1 (by decide) ⟨by omega, by omega⟩ hwch) dX12_sets_365 rfl rfl rfl rfl rfl rfl hM.1 ⟨Nat.le_of_ble_eq_true rfl, Nat.le_of_ble_eq_true rfl⟩ (Nat.le_of_ble_eq_true rfl) ?_
                    refine x_iconst 369 C dX12_sets_368 rfl ?_
                    refine x_icmp_le 372 384 C dX12_sets_369 rfl (by decide) (by first | exact hwch | exact hr1 _ _ | (split <;> omega) | exact hw.2.2.1 _ _ | exact hr0 _ _ | assumption | omega | exact ⟨by omega, by omega⟩) (by first | exact hwch | exact hr1 _ _ | (split <;> omega) | exact hw.2.2.1 _ _ | exact hr0 _ _ | assumption | omega | exact ⟨by omega, by omega⟩) (fun h369 => ?_) (fun h369 => ?_)
                    · skip
                      refine x_loop (α := RT) (fun V => (V 34 0).toNat) (fun V => RC V ∧ Fs R V ∧ rE2 (rSiteOf R (rStWho R a)) (rStWch R a w) V = rE2 (rSiteOf R (rStWho R a)) (rStWch R a w) (rE1 (rSiteOf R (rStWho R a)) (rStWch R a w) (rSt1 R a w))) (fun V => wR G V) (fun V => [some (.ref o), some (.int (i32 a)), some (.int (i32 w)), some (.int (i32 (bI (rStOwn R a)))), some (.int (i32 (rStWho R a))), some (.int (i32 (rStWch R a w))), some (.int (i32 (rStI R a w))), some (.int (i32 (rSiteOf R (rStWho R a))))]) (fun _ => []) S ⟨m1, m2, by (try dsimp only); rw [← m3, rE1_stop (by omega)]⟩ rfl rfl rfl ?_
                      intro aa hI ih
                      obtain ⟨V, rfl⟩ := (⟨aa, rfl⟩ : ∃ z, z = aa)
                      (try dsimp only at hI); (try dsimp only at ih); (try dsimp only)
                      obtain ⟨v1, v2, v3⟩ := hI
                      have vc := v1.1
                      refine x_aload_n 385 C dX12_sets_384 rfl rfl ?_
                      refine x_mget 388 34 C fr_X12_260 dX12_sets_385 rfl rfl hM ?_
                      (try simp only [u2r, false_and, and_false, true_and, and_true, ↓reduceIte, Nat.reduceEqDiff])
                      refine x_bipush 390 C dX12_sets_388 rfl (by decide) ?_
                      refine x_icmp_le 393 405 C dX12_sets_390 rfl (by decide) (by first | exact hwch | exact hr1 _ _ | (split <;> omega) | exact hw.2.2.1 _ _ | exact hr0 _ _ | assumption | omega | exact ⟨by omega, by omega⟩) (by first | exact hwch | exact hr1 _ _ | (split <;> omega) | exact hw.2.2.1 _ _ | exact hr0 _ _ | assumption | omega | exact ⟨by omega, by omega⟩) (fun h390 => ?_) (fun h390 => ?_)
                      · skip
                        exact x_ret C dX12_sets_405 ⟨rfl, congrArg (wR G) (by rw [rSets, if_neg (fun z => z.elim (fun y => absurd y (by omega)) (fun y => by rw [h16] at y; cases y)), if_neg (by omega), ← v3, rE2_stop (by omega)])⟩
                      · skip
                        refine x_aload_n 394 C dX12_sets_393 rfl rfl ?_
                        refine x_iconst 395 C dX12_sets_394 rfl ?_
                        refine x_iload 397 C dX12_sets_395 rfl rfl ?_
                        refine x_iload 399 C dX12_sets_397 rfl rfl ?_
                        refine x_Vv (As := [_, _, _]) 402 C vw_X12_302 iw_X12_evicts sw_X12_evicts (c_X12_evicts (R := V) hM (v2.H hH) v1 (by decide) ⟨by omega, by omega⟩ hwch (rEv_a v1 (by decide) (by omega))) dX12_sets_399 rfl rfl rfl rfl rfl rfl hM.1 ⟨Nat.le_of_ble_eq_true rfl, Nat.le_of_ble_eq_true rfl⟩ (Nat.le_of_ble_eq_true rfl) ?_
                        refine x_wf (fun hw => ?_)
                        refine x_goto 384 C dX12_sets_402 (by decide) ?_
                        exact ih (rDrops V (rEv V 1 (rSiteOf R (rStWho R a)) (rStWch R a w))) ⟨rDrops_C v1 (rEv_a v1 (by decide) (by omega)), v2.trans rDrops_Fs, by rw [← v3]; exact (rE2_step (by omega)).symm⟩ (by (try dsimp only); rw [rDrops_34]; omega)
                    · skip
                      refine x_aload_n 373 C dX12_sets_372 rfl rfl ?_
                      refine x_iconst 374 C dX12_sets_373 rfl ?_
                      refine x_iload 376 C dX12_sets_374 rfl rfl ?_
                      refine x_iload 378 C dX12_sets_376 rfl rfl ?_
                      refine x_Vv (As := [_, _, _]) 381 C vw_X12_302 iw_X12_evicts sw_X12_evicts (c_X12_evicts (R := S) hM (m2.H hH) m1 (by decide) ⟨by omega, by omega⟩ hwch (rEv_c m1 (by omega))) dX12_sets_378 rfl rfl rfl rfl rfl rfl hM.1 ⟨Nat.le_of_ble_eq_true rfl, Nat.le_of_ble_eq_true rfl⟩ (Nat.le_of_ble_eq_true rfl) ?_
                      refine x_wf (fun hw => ?_)
                      refine x_goto 359 C dX12_sets_381 (by decide) ?_
                      exact ihA (rDrops S (rEv S 0 (rSiteOf R (rStWho R a)) (rStWch R a w))) ⟨rDrops_C m1 (rEv_c m1 (by omega)), m2.trans rDrops_Fs, by rw [← m3]; exact (rE1_step (by omega)).symm⟩ (by (try dsimp only); rw [rDrops_34]; omega)
                  · skip
                    refine x_aload_n 306 C dX12_sets_305 rfl rfl ?_
                    refine x_mrow 309 23 C fr_X12_65 dX12_sets_306 rfl rfl hM ?_
                    refine x_iload_n 310 C dX12_sets_309 rfl rfl ?_
                    refine x_mldI 311 23 C dX12_sets_310 rfl rfl hM (by first | exact hIx | exact ⟨by omega, Int.lt_of_lt_of_le (b := 24) (by omega) (by decide)⟩) ?_
                    (try simp only [u2r, false_and, and_false, true_and, and_true, ↓reduceIte, Nat.reduceEqDiff])
                    refine x_if_ne 314 318 C dX12_sets_311 rfl (by decide) (by first | exact hwch | exact hr1 _ _ | (split <;> omega) | exact hw.2.2.1 _ _ | exact hr0 _ _ | assumption | omega | exact ⟨by omega, by omega⟩) (fun h311 => ?_) (fun h311 => ?_)
                    · skip
                      refine x_aload_n 319 C dX12_sets_318 rfl rfl ?_
                      refine x_mget 322 0 C fr_X12_244 dX12_sets_319 rfl rfl hM ?_
                      (try simp only [u2r, false_and, and_false, true_and, and_true, ↓reduceIte, Nat.reduceEqDiff])
                      refine x_aload_n 323 C dX12_sets_322 rfl rfl ?_
                      refine x_mrow 326 23 C fr_X12_65 dX12_sets_323 rfl rfl hM ?_
                      refine x_iload_n 327 C dX12_sets_326 rfl rfl ?_
                      refine x_mldI 328 23 C dX12_sets_327 rfl rfl hM (by first | exact hIx | exact ⟨by omega, Int.lt_of_lt_of_le (b := 24) (by omega) (by decide)⟩) ?_
                      (try simp only [u2r, false_and, and_false, true_and, and_true, ↓reduceIte, Nat.reduceEqDiff])
                      refine x_iadd 329 C dX12_sets_328 rfl ?_
                      exact hJ329 _ (by first | (simp [bI, h311]; done) | (simp [bI, h311]; omega) | (simp [bI, h311] at *; omega))
                    · skip
                      refine x_iconst 315 C dX12_sets_314 rfl ?_
                      refine x_goto 329 C dX12_sets_315 (by decide) ?_
                      exact hJ329 _ (by first | (simp [bI, h311]; done) | (simp [bI, h311]; omega) | (simp [bI, h311] at *; omega))
                · skip
                  refine x_iload 201 C dX12_sets_199 rfl rfl ?_
                  refine x_iconst 202 C dX12_sets_201 rfl ?_
                  refine x_icmp_ne 205 221 C dX12_sets_202 rfl (by decide) (by first | exact hwch | exact hr1 _ _ | (split <;> omega) | exact hw.2.2.1 _ _ | exact hr0 _ _ | assumption | omega | exact ⟨by omega, by omega⟩) (by first | exact hwch | exact hr1 _ _ | (split <;> omega) | exact hw.2.2.1 _ _ | exact hr0 _ _ | assumption | omega | exact ⟨by omega, by omega⟩) (fun h202 => ?_) (fun h202 => ?_)
                  · skip
                    have ez : f = rStFd R a w := (by rw [i3, show k = R 34 0 by omega]; rfl); first | (have hA1 : rStFd R a w = -1 := (by omega); exact x_as (congrArg (wR G) (show rSt0 R a w = _ by rw [rSt0, if_pos hA1])) (by first | (simp only [rStI, if_pos hA1]; done) | (simp only [rStI, if_pos hA1]; rfl)) rfl (hJ221 (rSt0 R a w, k) rfl)) | (have hA1 : ¬ rStFd R a w = -1 := (by omega); exact x_as (congrArg (wR G) (show rSt0 R a w = _ by rw [rSt0, if_neg hA1])) (by first | (simp only [rStI, if_neg hA1, ez]; done) | (simp only [rStI, if_neg hA1, ez]; rfl)) rfl (hJ221 (rSt0 R a w, k) rfl))
                  · skip
                    refine x_aload_n 206 C dX12_sets_205 rfl rfl ?_
                    refine x_mget 209 34 C fr_X12_260 dX12_sets_206 rfl rfl hM ?_
                    refine x_istore 211 C dX12_sets_209 rfl rfl rfl ?_
                    refine x_aload_n 212 C dX12_sets_211 rfl rfl ?_
                    refine x_dup 213 C dX12_sets_212 rfl rfl ?_
                    refine x_mget 216 34 C fr_X12_260 dX12_sets_213 rfl rfl hM ?_
                    refine x_iconst 217 C dX12_sets_216 rfl ?_
                    refine x_iadd 218 C dX12_sets_217 rfl ?_
                    refine x_mput 221 34 C fw_X12_260 dX12_sets_218 rfl rfl rfl hM (by first | exact hwch | exact hr1 _ _ | (split <;> omega) | exact hw.2.2.1 _ _ | exact hr0 _ _ | assumption | omega | exact ⟨by omega, by omega⟩) (fun z => absurd z (by decide)) ?_
                    refine x_wf (fun hw => ?_)
                    have ez : f = rStFd R a w := (by rw [i3, show k = R 34 0 by omega]; rfl); first | (have hA1 : rStFd R a w = -1 := (by omega); exact x_as (congrArg (wR G) (show rSt0 R a w = _ by rw [rSt0, if_pos hA1])) (by first | (simp only [rStI, if_pos hA1]; done) | (simp only [rStI, if_pos hA1]; rfl)) rfl (hJ221 (rSt0 R a w, k) rfl)) | (have hA1 : ¬ rStFd R a w = -1 := (by omega); exact x_as (congrArg (wR G) (show rSt0 R a w = _ by rw [rSt0, if_neg hA1])) (by first | (simp only [rStI, if_neg hA1, ez]; done) | (simp only [rStI, if_neg hA1, ez]; rfl)) rfl (hJ221 (rSt0 R a w, k) rfl))
              · skip
                refine x_iload 188 C dX12_sets_186 rfl rfl ?_
                refine x_iconst 189 C dX12_sets_188 rfl ?_
                refine x_icmp_eq 192 198 C dX12_sets_189 rfl (by decide) (by first | exact hwch | exact hr1 _ _ | (split <;> omega) | exact hw.2.2.1 _ _ | exact hr0 _ _ | assumption | omega | exact ⟨by omega, by omega⟩) (by first | exact hwch | exact hr1 _ _ | (split <;> omega) | exact hw.2.2.1 _ _ | exact hr0 _ _ | assumption | omega | exact ⟨by omega, by omega⟩) (fun h189 => ?_) (fun h189 => ?_)
                · skip
                  exact x_ret C dX12_sets_198 ⟨rfl, congrArg (wR G) (by have ez : f = rStFd R a w := (by rw [i3, show k = R 34 0 by omega]; rfl); rw [rSets, if_neg (fun z => z.elim (fun y => absurd y (by omega)) (fun y => by rw [h16] at y; cases y)), if_pos (by omega), ← ez]; first | (rw [if_pos (by omega)]; done) | (rw [if_neg (by omega)]; done))⟩
                · skip
                  refine x_aload_n 193 C dX12_sets_192 rfl rfl ?_
                  refine x_iload 195 C dX12_sets_193 rfl rfl ?_
                  refine x_Vv (As := [_]) 198 C vw_X12_292 iw_X12_drops sw_X12_drops (c_X12_drops hM (by omega) (by omega)) dX12_sets_195 rfl rfl rfl rfl rfl rfl hM.1 ⟨Nat.le_of_ble_eq_true rfl, Nat.le_of_ble_eq_true rfl⟩ (Nat.le_of_ble_eq_true rfl) ?_
                  refine x_wf (fun hw => ?_)
                  exact x_ret C dX12_sets_198 ⟨rfl, congrArg (wR G) (by have ez : f = rStFd R a w := (by rw [i3, show k = R 34 0 by omega]; rfl); rw [rSets, if_neg (fun z => z.elim (fun y => absurd y (by omega)) (fun y => by rw [h16] at y; cases y)), if_pos (by omega), ← ez]; first | (rw [if_pos (by omega)]; done) | (rw [if_neg (by omega)]; done))⟩
            · skip
              refine x_joinv 169 (fun vJ => vJ = if R 35 k.toNat = R 18 a.toNat ∧ R 37 k.toNat = rStWho R a ∧ R 39 k.toNat = R 21 a.toNat ∧ R 41 k.toNat = rStWch R a w then k else f) ?_ (fun hJ169 => ?_)
              · intro vJ hJ
                subst hJ
                refine x_istore 171 C dX12_sets_169 rfl rfl rfl ?_
                refine x_iinc 174 C dX12_sets_171 rfl rfl rfl rfl ?_
                refine x_goto 97 C dX12_sets_174 (by decide) ?_
                exact ih (if R 35 k.toNat = R 18 a.toNat ∧ R 37 k.toNat = rStWho R a ∧ R 39 k.toNat = R 21 a.toNat ∧ R 41 k.toNat = rStWch R a w then k else f, k + 1) ⟨by dsimp only; omega, by dsimp only; omega, by dsimp only; rw [show (k + 1).toNat = k.toNat + 1 by omega, rStF, show ((k.toNat : Nat) : Int) = k by omega, ← i3]⟩ (by dsimp only; omega)
              · skip
                refine x_aload_n 107 C dX12_sets_106 rfl rfl ?_
                refine x_mrow 110 35 C fr_X12_92 dX12_sets_107 rfl rfl hM ?_
                refine x_iload 112 C dX12_sets_110 rfl rfl ?_
                refine x_mldI 113 35 C dX12_sets_112 rfl rfl hM (by first | exact hIx | exact ⟨by omega, Int.lt_of_lt_of_le (b := 12) (by omega) (by decide)⟩) ?_
                refine x_aload_n 114 C dX12_sets_113 rfl rfl ?_
                refine x_mrow 117 18 C fr_X12_50 dX12_sets_114 rfl rfl hM ?_
                refine x_iload_n 118 C dX12_sets_117 rfl rfl ?_
                refine x_mldI 119 18 C dX12_sets_118 rfl rfl hM (by first | exact hIx | exact ⟨by omega, Int.lt_of_lt_of_le (b := 24) (by omega) (by decide)⟩) ?_
                refine x_icmp_ne 122 167 C dX12_sets_119 rfl (by decide) (by first | exact hwch | exact hr1 _ _ | (split <;> omega) | exact hw.2.2.1 _ _ | exact hr0 _ _ | assumption | omega | exact ⟨by omega, by omega⟩) (by first | exact hwch | exact hr1 _ _ | (split <;> omega) | exact hw.2.2.1 _ _ | exact hr0 _ _ | assumption | omega | exact ⟨by omega, by omega⟩) (fun h119 => ?_) (fun h119 => ?_)
                · skip
                  refine x_iload 169 C dX12_sets_167 rfl rfl ?_
                  exact hJ169 _ (by first | (simp [bI, h119]; done) | (simp [bI, h119]; omega) | (simp [bI, h119] at *; omega))
                · skip
                  refine x_aload_n 123 C dX12_sets_122 rfl rfl ?_
                  refine x_mrow 126 37 C fr_X12_98 dX12_sets_123 rfl rfl hM ?_
                  refine x_iload 128 C dX12_sets_126 rfl rfl ?_
                  refine x_mldI 129 37 C dX12_sets_128 rfl rfl hM (by first | exact hIx | exact ⟨by omega, Int.lt_of_lt_of_le (b := 12) (by omega) (by decide)⟩) ?_
                  refine x_iload 131 C dX12_sets_129 rfl rfl ?_
                  refine x_icmp_ne 134 167 C dX12_sets_131 rfl (by decide) (by first | exact hwch | exact hr1 _ _ | (split <;> omega) | exact hw.2.2.1 _ _ | exact hr0 _ _ | assumption | omega | exact ⟨by omega, by omega⟩) (by first | exact hwch | exact hr1 _ _ | (split <;> omega) | exact hw.2.2.1 _ _ | exact hr0 _ _ | assumption | omega | exact ⟨by omega, by omega⟩) (fun h131 => ?_) (fun h131 => ?_)
                  · skip
                    refine x_iload 169 C dX12_sets_167 rfl rfl ?_
                    exact hJ169 _ (by first | (simp [bI, h119, h131]; done) | (simp [bI, h119, h131]; omega) | (simp [bI, h119, h131] at *; omega))
                  · skip
                    refine x_aload_n 135 C dX12_sets_134 rfl rfl ?_
                    refine x_mrow 138 39 C fr_X12_104 dX12_sets_135 rfl rfl hM ?_
                    refine x_iload 140 C dX12_sets_138 rfl rfl ?_
                    refine x_mldI 141 39 C dX12_sets_140 rfl rfl hM (by first | exact hIx | exact ⟨by omega, Int.lt_of_lt_of_le (b := 12) (by omega) (by decide)⟩) ?_
                    refine x_aload_n 142 C dX12_sets_141 rfl rfl ?_
                    refine x_mrow 145 21 C fr_X12_59 dX12_sets_142 rfl rfl hM ?_
                    refine x_iload_n 146 C dX12_sets_145 rfl rfl ?_
                    refine x_mldI 147 21 C dX12_sets_146 rfl rfl hM (by first | exact hIx | exact ⟨by omega, Int.lt_of_lt_of_le (b := 24) (by omega) (by decide)⟩) ?_
                    refine x_icmp_ne 150 167 C dX12_sets_147 rfl (by decide) (by first | exact hwch | exact hr1 _ _ | (split <;> omega) | exact hw.2.2.1 _ _ | exact hr0 _ _ | assumption | omega | exact ⟨by omega, by omega⟩) (by first | exact hwch | exact hr1 _ _ | (split <;> omega) | exact hw.2.2.1 _ _ | exact hr0 _ _ | assumption | omega | exact ⟨by omega, by omega⟩) (fun h147 => ?_) (fun h147 => ?_)
                    · skip
                      refine x_iload 169 C dX12_sets_167 rfl rfl ?_
                      exact hJ169 _ (by first | (simp [bI, h119, h131, h147]; done) | (simp [bI, h119, h131, h147]; omega) | (simp [bI, h119, h131, h147] at *; omega))
                    · skip
                      refine x_aload_n 151 C dX12_sets_150 rfl rfl ?_
                      refine x_mrow 154 41 C fr_X12_110 dX12_sets_151 rfl rfl hM ?_
                      refine x_iload 156 C dX12_sets_154 rfl rfl ?_
                      refine x_mldI 157 41 C dX12_sets_156 rfl rfl hM (by first | exact hIx | exact ⟨by omega, Int.lt_of_lt_of_le (b := 12) (by omega) (by decide)⟩) ?_
                      refine x_iload 159 C dX12_sets_157 rfl rfl ?_
                      refine x_icmp_ne 162 167 C dX12_sets_159 rfl (by decide) (by first | exact hwch | exact hr1 _ _ | (split <;> omega) | exact hw.2.2.1 _ _ | exact hr0 _ _ | assumption | omega | exact ⟨by omega, by omega⟩) (by first | exact hwch | exact hr1 _ _ | (split <;> omega) | exact hw.2.2.1 _ _ | exact hr0 _ _ | assumption | omega | exact ⟨by omega, by omega⟩) (fun h159 => ?_) (fun h159 => ?_)
                      · skip
                        refine x_iload 169 C dX12_sets_167 rfl rfl ?_
                        exact hJ169 _ (by first | (simp [bI, h119, h131, h147, h159]; done) | (simp [bI, h119, h131, h147, h159]; omega) | (simp [bI, h119, h131, h147, h159] at *; omega))
                      · skip
                        refine x_iload 164 C dX12_sets_162 rfl rfl ?_
                        refine x_goto 169 C dX12_sets_164 (by decide) ?_
                        exact hJ169 _ (by first | (simp [bI, h119, h131, h147, h159]; done) | (simp [bI, h119, h131, h147, h159]; omega) | (simp [bI, h119, h131, h147, h159] at *; omega))
          · skip
            refine x_aload_n 72 C dX12_sets_71 rfl rfl ?_
            refine x_mrow 75 22 C fr_X12_62 dX12_sets_72 rfl rfl hM ?_
            refine x_iload_n 76 C dX12_sets_75 rfl rfl ?_
            refine x_mldI 77 22 C dX12_sets_76 rfl rfl hM (by first | exact hIx | exact ⟨by omega, Int.lt_of_lt_of_le (b := 24) (by omega) (by decide)⟩) ?_
            refine x_iconst 78 C dX12_sets_77 rfl ?_
            refine x_Sr (As := [_, _]) 81 C vw_X12_263 tw_X12_has c_X12_has dX12_sets_78 rfl rfl rfl ⟨Nat.le_of_ble_eq_true rfl, Nat.le_of_ble_eq_true rfl⟩ (Nat.le_of_ble_eq_true rfl) ?_
            refine x_if_eqB 84 88 C dX12_sets_81 rfl (by decide) (fun h81 => ?_) (fun h81 => ?_)
            · skip
              refine x_iconst 89 C dX12_sets_88 rfl ?_
              exact hJ89 _ (by first | (simp [bI, rStWch, h81]; done) | (simp [bI, rStWch, h81]; omega) | (simp [bI, rStWch, h81] at *; omega))
            · skip
              refine x_iload_n 85 C dX12_sets_84 rfl rfl ?_
              refine x_goto 89 C dX12_sets_85 (by decide) ?_
              exact hJ89 _ (by first | (simp [bI, rStWch, h81]; done) | (simp [bI, rStWch, h81]; omega) | (simp [bI, rStWch, h81] at *; omega))
        · skip
          refine x_iload_n 51 C dX12_sets_50 rfl rfl ?_
          refine x_if_eqB 54 63 C dX12_sets_51 rfl (by decide) (fun h51 => ?_) (fun h51 => ?_)
          · skip
            refine x_aload_n 64 C dX12_sets_63 rfl rfl ?_
            refine x_mrow 67 20 C fr_X12_56 dX12_sets_64 rfl rfl hM ?_
            refine x_iload_n 68 C dX12_sets_67 rfl rfl ?_
            refine x_mldI 69 20 C dX12_sets_68 rfl rfl hM (by first | exact hIx | exact ⟨by omega, Int.lt_of_lt_of_le (b := 24) (by omega) (by decide)⟩) ?_
            exact hJ69 _ (by first | (simp [bI, rStWho, h51]; done) | (simp [bI, rStWho, h51]; omega) | (simp [bI, rStWho, h51] at *; omega))
          · skip
            refine x_aload_n 55 C dX12_sets_54 rfl rfl ?_
            refine x_mrow 58 9 C fr_X12_23 dX12_sets_55 rfl rfl hM ?_
            refine x_iload_n 59 C dX12_sets_58 rfl rfl ?_
            refine x_mldI 60 9 C dX12_sets_59 rfl rfl hM (by first | exact hIx | exact ⟨by omega, Int.lt_of_lt_of_le (b := 24) (by omega) (by decide)⟩) ?_
            refine x_goto 69 C dX12_sets_60 (by decide) ?_
            exact hJ69 _ (by first | (simp [bI, rStWho, h51]; done) | (simp [bI, rStWho, h51]; omega) | (simp [bI, rStWho, h51] at *; omega))
      · skip
        refine x_aload_n 21 C dX12_sets_20 rfl rfl ?_
        refine x_mrow 24 20 C fr_X12_56 dX12_sets_21 rfl rfl hM ?_
        refine x_iload_n 25 C dX12_sets_24 rfl rfl ?_
        refine x_mldI 26 20 C dX12_sets_25 rfl rfl hM (by first | exact hIx | exact ⟨by omega, Int.lt_of_lt_of_le (b := 24) (by omega) (by decide)⟩) ?_
        refine x_iconst 27 C dX12_sets_26 rfl ?_
        refine x_icmp_eq 30 44 C dX12_sets_27 rfl (by decide) (by first | exact hwch | exact hr1 _ _ | (split <;> omega) | exact hw.2.2.1 _ _ | exact hr0 _ _ | assumption | omega | exact ⟨by omega, by omega⟩) (by first | exact hwch | exact hr1 _ _ | (split <;> omega) | exact hw.2.2.1 _ _ | exact hr0 _ _ | assumption | omega | exact ⟨by omega, by omega⟩) (fun h27 => ?_) (fun h27 => ?_)
        · skip
          refine x_iconst 45 C dX12_sets_44 rfl ?_
          refine x_goto 49 C dX12_sets_45 (by decide) ?_
          exact hJ49 _ (by first | (simp [bI, rStOwn, h27]; done) | (simp [bI, rStOwn, h27]; omega) | (simp [bI, rStOwn, h27] at *; omega))
        · skip
          refine x_aload_n 31 C dX12_sets_30 rfl rfl ?_
          refine x_mrow 34 6 C fr_X12_16 dX12_sets_31 rfl rfl hM ?_
          refine x_aload_n 35 C dX12_sets_34 rfl rfl ?_
          refine x_mrow 38 20 C fr_X12_56 dX12_sets_35 rfl rfl hM ?_
          refine x_iload_n 39 C dX12_sets_38 rfl rfl ?_
          refine x_mldI 40 20 C dX12_sets_39 rfl rfl hM (by first | exact hIx | exact ⟨by omega, Int.lt_of_lt_of_le (b := 24) (by omega) (by decide)⟩) ?_
          refine x_mldZ 41 6 C dX12_sets_40 rfl rfl hM (by first | exact hIx | exact ⟨by omega, Int.lt_of_lt_of_le (b := 16) (by omega) (by decide)⟩) ?_
          refine x_if_eq 44 48 C dX12_sets_41 rfl (by decide) (by first | exact hwch | exact hr1 _ _ | (split <;> omega) | exact hw.2.2.1 _ _ | exact hr0 _ _ | assumption | omega | exact ⟨by omega, by omega⟩) (fun h41 => ?_) (fun h41 => ?_)
          · skip
            refine x_iconst 49 C dX12_sets_48 rfl ?_
            exact hJ49 _ (by first | (simp [bI, rStOwn, h27, h41]; done) | (simp [bI, rStOwn, h27, h41]; omega) | (simp [bI, rStOwn, h27, h41] at *; omega))
          · skip
            refine x_iconst 45 C dX12_sets_44 rfl ?_
            refine x_goto 49 C dX12_sets_45 (by decide) ?_
            exact hJ49 _ (by first | (simp [bI, rStOwn, h27, h41]; done) | (simp [bI, rStOwn, h27, h41]; omega) | (simp [bI, rStOwn, h27, h41] at *; omega))
    · skip
      exact x_ret C dX12_sets_19 ⟨rfl, congrArg (wR G) (by rw [rSets, if_pos (by first | exact Or.inl (by omega) | exact Or.inr h16)])⟩
