/-! rows laid by program (wip/tools/gen.py) -/
set_option maxHeartbeats 1000000 in
set_option maxRecDepth 100000 in
theorem c_X12_preflight {E : EV} {l : Launch} {G : GT} {R : RT} {o : Nat} {a w : Int} (hM : RM G o) (hH : RH R) (hA : RA R) (hD : RAd R) (hP : RP R) (hQ : RQ R) (hL : RLn R) (h1 : 0 ≤ a ∧ a < R 7 0) (h3 : InR w) (hT : (0 ≤ R 0 0 ∧ R 0 0 ≤ 2000000000) ∧ (0 ≤ R 1 0 ∧ R 1 0 ≤ 2000000000) ∧ (0 ≤ R 45 0 ∧ R 45 0 ≤ 2000000000)) (h5 : 0 ≤ R 53 0 ∧ R 53 0 ≤ 2000000000) (h6 : 0 ≤ R 54 0 ∧ R 54 0 ≤ 255) (h7 : 0 ≤ R 17 a.toNat ∧ R 17 a.toNat ≤ 1000) : MT E l yX12_preflight cX12_preflight 7 (some .boolean) 3 66 0 0 [.ref o, .int (i32 a), .int (i32 w)] (wR G R) (pD (some (.int (i32 (bI (rPf R a w))))) (wR G (rPfR R a w))) := by
  refine mt_of (own := RX12) (L := [some (.ref o), some (.int (i32 a)), some (.int (i32 w)), none, none, none, none]) (by decide +kernel) rfl (Nat.le_of_ble_eq_true rfl) (List.forall_mem_cons.mpr ⟨rfl, (List.forall_mem_cons.mpr ⟨rfl, (List.forall_mem_cons.mpr ⟨rfl, (fun _ h => absurd h List.not_mem_nil)⟩)⟩)⟩) rfl ?_
  intro p e s m args below meth c C hin
  refine x_wf (fun hw => ?_)
  have hr0 : ∀ k j, InR (R k j) := hw.2.2.1
  have hz0 : ∀ k j, mZ k = true → R k j = 0 ∨ R k j = 1 := hw.2.2.2.2.1
  have hh := hA.1
  have hh2 := hA.2
  have hfr := rFrom_in hP hQ
  have hog := rOrg_in hD hH hfr
  have hq1 := hQ.1
  have hp1 := hP.1
  have horg : -1 ≤ rPfOrg R ∧ rPfOrg R ≤ 1000000 := by (unfold rPfOrg; split <;> omega)
  have hF1 := rPf1_Fq (R := R) (a := a) (w := w)
  have hpi := rPfI_in (a := a) (w := w) h6.1
  refine x_joinv 24 (fun vJ => vJ = rPfOrg R) ?_ (fun hJ24 => ?_)
  · intro vJ hJ
    subst hJ
    refine x_istore_n 25 C dX12_preflight_24 rfl rfl rfl ?_
    refine x_joinv 38 (fun vJ => vJ = if R 66 0 = 2 then 1 else 0) ?_ (fun hJ38 => ?_)
    · intro vJ hJ
      subst hJ
      refine x_joinv 50 (fun vJ => vJ = if R 65 0 = 0 then 0 else 2) ?_ (fun hJ50 => ?_)
      · intro vJ hJ
        subst hJ
        refine x_iadd 51 C dX12_preflight_50 rfl ?_
        refine x_istore 53 C dX12_preflight_51 rfl rfl rfl ?_
        refine x_iconst 54 C dX12_preflight_53 rfl ?_
        refine x_istore 56 C dX12_preflight_54 rfl rfl rfl ?_
        refine x_iconst 57 C dX12_preflight_56 rfl ?_
        refine x_istore 59 C dX12_preflight_57 rfl rfl rfl ?_
        refine x_loop (α := Int × Int) (fun ⟨f, k⟩ => (R 54 0 - k).toNat) (fun ⟨f, k⟩ => 0 ≤ k ∧ k ≤ R 54 0 ∧ f = rPfF R a w k.toNat) (fun ⟨f, k⟩ => wR G R) (fun ⟨f, k⟩ => [some (.ref o), some (.int (i32 a)), some (.int (i32 w)), some (.int (i32 (rPfOrg R))), some (.int (i32 (rPfNeeds R))), some (.int (i32 f)), some (.int (i32 k))]) (fun _ => []) (-1, 0) ⟨by decide, by omega, rfl⟩ rfl rfl rfl ?_
        intro aa hI ih
        obtain ⟨f, k⟩ := aa
        (try dsimp only at hI); (try dsimp only at ih); (try dsimp only)
        obtain ⟨i1, i2, i3⟩ := hI
        have hfi := rPfF_in R a w k.toNat
        rw [← i3] at hfi
        have hnd : 0 ≤ rPfNeeds R ∧ rPfNeeds R ≤ 3 := by (unfold rPfNeeds; split <;> split <;> omega)
        refine x_iload 61 C dX12_preflight_59 rfl rfl ?_
        refine x_aload_n 62 C dX12_preflight_61 rfl rfl ?_
        refine x_mget 65 54 C fr_X12_330 dX12_preflight_62 rfl rfl hM ?_
        refine x_icmp_ge 68 130 C dX12_preflight_65 rfl (by decide) (by first | exact iand_in _ _ | exact hr1 _ _ | exact hw.2.2.1 _ _ | exact hr0 _ _ | assumption | omega | exact ⟨by omega, by omega⟩) (by first | exact iand_in _ _ | exact hr1 _ _ | exact hw.2.2.1 _ _ | exact hr0 _ _ | assumption | omega | exact ⟨by omega, by omega⟩) (fun h65 => ?_) (fun h65 => ?_)
        · skip
          have ef : f = rPfFd R a w := by (rw [i3, show k = R 54 0 by omega]; rfl)
          refine x_join (α := Unit) 167 (fun u => rPfHit R a w = false) (fun u => wR G R) (fun u => [some (.ref o), some (.int (i32 a)), some (.int (i32 w)), some (.int (i32 (rPfOrg R))), some (.int (i32 (rPfNeeds R))), some (.int (i32 f)), some (.int (i32 k))]) (fun u => []) ?_ (fun hJ167 => ?_)
          · intro aa hJ
            obtain ⟨u, rfl⟩ := (⟨aa, rfl⟩ : ∃ z, z = aa)
            (try dsimp only at hJ); (try dsimp only)
            have e16 : rPf1 R a w 16 = R 16 := hF1 16 (by decide) (by decide) (by decide) (by decide)
            have e17 : rPf1 R a w 17 = R 17 := hF1 17 (by decide) (by decide) (by decide) (by decide)
            have e54 := rPf1_54 (R := R) (a := a) (w := w)
            have hK167 := hJ
            refine x_wf (fun hw => ?_)
            refine x_aload_n 168 C dX12_preflight_167 rfl rfl ?_
            refine x_dup 169 C dX12_preflight_168 rfl rfl ?_
            refine x_mget 172 53 C fr_X12_333 dX12_preflight_169 rfl rfl hM ?_
            (try simp only [u2r, false_and, and_false, true_and, and_true, ↓reduceIte, Nat.reduceEqDiff])
            refine x_iconst 173 C dX12_preflight_172 rfl ?_
            refine x_iadd 174 C dX12_preflight_173 rfl ?_
            refine x_mput 177 53 C fw_X12_333 dX12_preflight_174 rfl rfl rfl hM (by first | exact iand_in _ _ | exact hr1 _ _ | exact hw.2.2.1 _ _ | exact hr0 _ _ | assumption | omega | exact ⟨by omega, by omega⟩) (fun z => absurd z (by decide)) ?_
            refine x_wf (fun hw => ?_)
            refine x_aload_n 178 C dX12_preflight_177 rfl rfl ?_
            refine x_iload_n 179 C dX12_preflight_178 rfl rfl ?_
            refine x_iconst 180 C dX12_preflight_179 rfl ?_
            refine x_iload_n 181 C dX12_preflight_180 rfl rfl ?_
            refine x_Vv (As := [_, _, _]) 184 C vw_X12_336 iw_X12_connects sw_X12_connects (c_X12_connects (R := u2 R 53 0 (R 53 0 + 1)) hM ((Fs.refl.u (Or.inr (by decide))).A hA) ((Fs.refl.u (Or.inr (by decide))).Ad hD) hL h1 (Or.inl rfl) h3 hT) dX12_preflight_181 rfl rfl rfl rfl rfl rfl hM.1 ⟨Nat.le_of_ble_eq_true rfl, Nat.le_of_ble_eq_true rfl⟩ (Nat.le_of_ble_eq_true rfl) ?_
            refine x_wf (fun hw => ?_)
            rw [show rConR (u2 R 53 0 (R 53 0 + 1)) a 0 w = rPf1 R a w from rfl]
            refine x_aload_n 185 C dX12_preflight_184 rfl rfl ?_
            refine x_iload_n 186 C dX12_preflight_185 rfl rfl ?_
            refine x_Vr (As := [_]) 189 C vw_X12_340 iw_X12_letsIt sw_X12_letsIt (c_X12_letsIt (R := rPf1 R a w) hM (hF1.Fs.A hA) (hF1.Fs.Ad hD) (hF1.Fs.P hP) (hF1.Q hQ) (by rw [hF1 7 (by decide) (by decide) (by decide) (by decide)]; omega)) dX12_preflight_186 rfl rfl rfl rfl rfl rfl hM.1 ⟨Nat.le_of_ble_eq_true rfl, Nat.le_of_ble_eq_true rfl⟩ (Nat.le_of_ble_eq_true rfl) ?_
            rw [hF1.lets]
            refine x_if_eqB 192 206 C dX12_preflight_189 rfl (by decide) (fun h189 => ?_) (fun h189 => ?_)
            · skip
              refine x_iconst 207 C dX12_preflight_206 rfl ?_
              exact x_iret C dX12_preflight_207 (by first | rfl | exact nar_b _ | exact nar_01 (by first | assumption | omega | exact hw.2.2.2.2.1 _ _ rfl | exact hz0 _ _ rfl)) ⟨vi (by have eo : rPfOk R a = false := (by rw [rPfOk]; first | (rw [h189]; rfl) | (rw [decide_eq_false (fun z => absurd z (by rw [← e16]; omega))]; simp)); rw [rPf, hK167, eo]; rfl), congrArg (wR G) (by first | (have eh : rPfHit R a w = true := (by rw [rPfHit, ← ef]; exact decide_eq_true ⟨by omega, by omega, by omega⟩); rw [rPfR, if_pos eh]; done) | (have eo : rPfOk R a = false := (by rw [rPfOk]; first | (rw [h189]; rfl) | (rw [decide_eq_false (fun z => absurd z (by rw [← e16]; omega))]; simp)); rw [rPfR, hK167, eo]; rfl) | (have eo : rPfOk R a = true := (by rw [rPfOk, h189, decide_eq_true (show iand (R 16 a.toNat) (rPfNeeds R) = rPfNeeds R by rw [← e16]; omega)]; rfl); rw [rPfR, if_neg (by rw [hK167]; decide)]; first | (rw [if_pos ⟨eo, by rw [← e17]; omega⟩, rPfPut, ← hJ]; rfl) | (rw [if_neg (fun z => absurd z.2 (by rw [← e17]; omega))]; done)))⟩
            · skip
              refine x_aload_n 193 C dX12_preflight_192 rfl rfl ?_
              refine x_mrow 196 16 C fr_X12_44 dX12_preflight_193 rfl rfl hM ?_
              refine x_iload_n 197 C dX12_preflight_196 rfl rfl ?_
              refine x_mldI 198 16 C dX12_preflight_197 rfl rfl hM (by first | exact hIx | exact ⟨by omega, Int.lt_of_lt_of_le (b := 24) (by omega) (by decide)⟩) ?_
              (try simp only [u2r, false_and, and_false, true_and, and_true, ↓reduceIte, Nat.reduceEqDiff])
              refine x_iload 200 C dX12_preflight_198 rfl rfl ?_
              refine x_iand 201 C dX12_preflight_200 rfl ?_
              refine x_iload 203 C dX12_preflight_201 rfl rfl ?_
              refine x_icmp_eq 206 208 C dX12_preflight_203 rfl (by decide) (by first | exact iand_in _ _ | exact hr1 _ _ | exact hw.2.2.1 _ _ | exact hr0 _ _ | assumption | omega | exact ⟨by omega, by omega⟩) (by first | exact iand_in _ _ | exact hr1 _ _ | exact hw.2.2.1 _ _ | exact hr0 _ _ | assumption | omega | exact ⟨by omega, by omega⟩) (fun h203 => ?_) (fun h203 => ?_)
              · skip
                refine x_aload_n 209 C dX12_preflight_208 rfl rfl ?_
                refine x_mrow 212 17 C fr_X12_47 dX12_preflight_209 rfl rfl hM ?_
                refine x_iload_n 213 C dX12_preflight_212 rfl rfl ?_
                refine x_mldI 214 17 C dX12_preflight_213 rfl rfl hM (by first | exact hIx | exact ⟨by omega, Int.lt_of_lt_of_le (b := 24) (by omega) (by decide)⟩) ?_
                (try simp only [u2r, false_and, and_false, true_and, and_true, ↓reduceIte, Nat.reduceEqDiff])
                refine x_if_le 217 305 C dX12_preflight_214 rfl (by decide) (by first | exact iand_in _ _ | exact hr1 _ _ | exact hw.2.2.1 _ _ | exact hr0 _ _ | assumption | omega | exact ⟨by omega, by omega⟩) (fun h214 => ?_) (fun h214 => ?_)
                · skip
                  refine x_iconst 306 C dX12_preflight_305 rfl ?_
                  exact x_iret C dX12_preflight_306 (by first | rfl | exact nar_b _ | exact nar_01 (by first | assumption | omega | exact hw.2.2.2.2.1 _ _ rfl | exact hz0 _ _ rfl)) ⟨vi (by have eo : rPfOk R a = true := (by rw [rPfOk, h189, decide_eq_true (show iand (R 16 a.toNat) (rPfNeeds R) = rPfNeeds R by rw [← e16]; omega)]; rfl); rw [rPf, eo, Bool.or_true]; rfl), congrArg (wR G) (by first | (have eh : rPfHit R a w = true := (by rw [rPfHit, ← ef]; exact decide_eq_true ⟨by omega, by omega, by omega⟩); rw [rPfR, if_pos eh]; done) | (have eo : rPfOk R a = false := (by rw [rPfOk]; first | (rw [h189]; rfl) | (rw [decide_eq_false (fun z => absurd z (by rw [← e16]; omega))]; simp)); rw [rPfR, hK167, eo]; rfl) | (have eo : rPfOk R a = true := (by rw [rPfOk, h189, decide_eq_true (show iand (R 16 a.toNat) (rPfNeeds R) = rPfNeeds R by rw [← e16]; omega)]; rfl); rw [rPfR, if_neg (by rw [hK167]; decide)]; first | (rw [if_pos ⟨eo, by rw [← e17]; omega⟩, rPfPut, ← hJ]; rfl) | (rw [if_neg (fun z => absurd z.2 (by rw [← e17]; omega))]; done)))⟩
                · skip
                  refine x_join (α := RT) 239 (fun T => T = rPf2 R a w) (fun T => wR G T) (fun T => [some (.ref o), some (.int (i32 a)), some (.int (i32 w)), some (.int (i32 (rPfOrg R))), some (.int (i32 (rPfNeeds R))), some (.int (i32 (rPfI R a w))), some (.int (i32 k))]) (fun T => []) ?_ (fun hJ239 => ?_)
                  · intro aa hJ
                    obtain ⟨T, rfl⟩ := (⟨aa, rfl⟩ : ∃ z, z = aa)
                    (try dsimp only at hJ); (try dsimp only)
                    have hT2 : Fq R T := by rw [hJ]; exact rPf2_Fq
                    have t0 : T 0 0 = R 0 0 := by rw [hT2 0 (by decide) (by decide) (by decide) (by decide)]
                    have t17 : T 17 a.toNat = R 17 a.toNat := by rw [hT2 17 (by decide) (by decide) (by decide) (by decide)]
                    refine x_wf (fun hw => ?_)
                    have hr1 : ∀ k j, InR (T k j) := hw.2.2.1
                    have hz1 : ∀ k j, mZ k = true → T k j = 0 ∨ T k j = 1 := hw.2.2.2.2.1
                    refine x_wf (fun hw => ?_)
                    refine x_aload_n 240 C dX12_preflight_239 rfl rfl ?_
                    refine x_mrow 243 55 C fr_X12_140 dX12_preflight_240 rfl rfl hM ?_
                    refine x_iload 245 C dX12_preflight_243 rfl rfl ?_
                    refine x_iload_n 246 C dX12_preflight_245 rfl rfl ?_
                    refine x_mstI 247 55 C dX12_preflight_246 rfl rfl hM ⟨by omega, Int.lt_of_lt_of_le (b := 256) (by omega) (by decide)⟩ (by first | exact iand_in _ _ | exact hr1 _ _ | exact hw.2.2.1 _ _ | exact hr0 _ _ | assumption | omega | exact ⟨by omega, by omega⟩) ?_
                    refine x_wf (fun hw => ?_)
                    refine x_aload_n 248 C dX12_preflight_247 rfl rfl ?_
                    refine x_mrow 251 56 C fr_X12_143 dX12_preflight_248 rfl rfl hM ?_
                    refine x_iload 253 C dX12_preflight_251 rfl rfl ?_
                    refine x_iload_n 254 C dX12_preflight_253 rfl rfl ?_
                    refine x_mstI 255 56 C dX12_preflight_254 rfl rfl hM ⟨by omega, Int.lt_of_lt_of_le (b := 256) (by omega) (by decide)⟩ (by first | exact iand_in _ _ | exact hr1 _ _ | exact hw.2.2.1 _ _ | exact hr0 _ _ | assumption | omega | exact ⟨by omega, by omega⟩) ?_
                    refine x_wf (fun hw => ?_)
                    refine x_aload_n 256 C dX12_preflight_255 rfl rfl ?_
                    refine x_mrow 259 57 C fr_X12_146 dX12_preflight_256 rfl rfl hM ?_
                    refine x_iload 261 C dX12_preflight_259 rfl rfl ?_
                    refine x_aload_n 262 C dX12_preflight_261 rfl rfl ?_
                    refine x_mget 265 63 C fr_X12_318 dX12_preflight_262 rfl rfl hM ?_
                    (try simp only [u2r, false_and, and_false, true_and, and_true, ↓reduceIte, Nat.reduceEqDiff])
                    refine x_mstZ 266 57 C dX12_preflight_265 rfl rfl hM ⟨by omega, Int.lt_of_lt_of_le (b := 256) (by omega) (by decide)⟩ (by first | exact hz1 _ _ rfl | assumption | omega | exact bI_01 _ | exact hw.2.2.2.2.1 _ _ rfl | exact hz0 _ _ rfl) ?_
                    refine x_wf (fun hw => ?_)
                    refine x_aload_n 267 C dX12_preflight_266 rfl rfl ?_
                    refine x_mrow 270 58 C fr_X12_149 dX12_preflight_267 rfl rfl hM ?_
                    refine x_iload 272 C dX12_preflight_270 rfl rfl ?_
                    refine x_iload_n 273 C dX12_preflight_272 rfl rfl ?_
                    refine x_mstI 274 58 C dX12_preflight_273 rfl rfl hM ⟨by omega, Int.lt_of_lt_of_le (b := 256) (by omega) (by decide)⟩ (by first | exact iand_in _ _ | exact hr1 _ _ | exact hw.2.2.1 _ _ | exact hr0 _ _ | assumption | omega | exact ⟨by omega, by omega⟩) ?_
                    refine x_wf (fun hw => ?_)
                    refine x_aload_n 275 C dX12_preflight_274 rfl rfl ?_
                    refine x_mrow 278 59 C fr_X12_152 dX12_preflight_275 rfl rfl hM ?_
                    refine x_iload 280 C dX12_preflight_278 rfl rfl ?_
                    refine x_aload_n 281 C dX12_preflight_280 rfl rfl ?_
                    refine x_mrow 284 16 C fr_X12_44 dX12_preflight_281 rfl rfl hM ?_
                    refine x_iload_n 285 C dX12_preflight_284 rfl rfl ?_
                    refine x_mldI 286 16 C dX12_preflight_285 rfl rfl hM (by first | exact hIx | exact ⟨by omega, Int.lt_of_lt_of_le (b := 24) (by omega) (by decide)⟩) ?_
                    (try simp only [u2r, false_and, and_false, true_and, and_true, ↓reduceIte, Nat.reduceEqDiff])
                    refine x_mstI 287 59 C dX12_preflight_286 rfl rfl hM ⟨by omega, Int.lt_of_lt_of_le (b := 256) (by omega) (by decide)⟩ (by first | exact iand_in _ _ | exact hr1 _ _ | exact hw.2.2.1 _ _ | exact hr0 _ _ | assumption | omega | exact ⟨by omega, by omega⟩) ?_
                    refine x_wf (fun hw => ?_)
                    refine x_aload_n 288 C dX12_preflight_287 rfl rfl ?_
                    refine x_mrow 291 60 C fr_X12_155 dX12_preflight_288 rfl rfl hM ?_
                    refine x_iload 293 C dX12_preflight_291 rfl rfl ?_
                    refine x_aload_n 294 C dX12_preflight_293 rfl rfl ?_
                    refine x_mget 297 0 C fr_X12_244 dX12_preflight_294 rfl rfl hM ?_
                    (try simp only [u2r, false_and, and_false, true_and, and_true, ↓reduceIte, Nat.reduceEqDiff])
                    refine x_aload_n 298 C dX12_preflight_297 rfl rfl ?_
                    refine x_mrow 301 17 C fr_X12_47 dX12_preflight_298 rfl rfl hM ?_
                    refine x_iload_n 302 C dX12_preflight_301 rfl rfl ?_
                    refine x_mldI 303 17 C dX12_preflight_302 rfl rfl hM (by first | exact hIx | exact ⟨by omega, Int.lt_of_lt_of_le (b := 24) (by omega) (by decide)⟩) ?_
                    (try simp only [u2r, false_and, and_false, true_and, and_true, ↓reduceIte, Nat.reduceEqDiff])
                    refine x_iadd 304 C dX12_preflight_303 rfl ?_
                    refine x_mstI 305 60 C dX12_preflight_304 rfl rfl hM ⟨by omega, Int.lt_of_lt_of_le (b := 256) (by omega) (by decide)⟩ (by first | exact iand_in _ _ | exact hr1 _ _ | exact hw.2.2.1 _ _ | exact hr0 _ _ | assumption | omega | exact ⟨by omega, by omega⟩) ?_
                    refine x_wf (fun hw => ?_)
                    refine x_iconst 306 C dX12_preflight_305 rfl ?_
                    exact x_iret C dX12_preflight_306 (by first | rfl | exact nar_b _ | exact nar_01 (by first | assumption | omega | exact hw.2.2.2.2.1 _ _ rfl | exact hz0 _ _ rfl)) ⟨vi (by have eo : rPfOk R a = true := (by rw [rPfOk, h189, decide_eq_true (show iand (R 16 a.toNat) (rPfNeeds R) = rPfNeeds R by rw [← e16]; omega)]; rfl); rw [rPf, eo, Bool.or_true]; rfl), congrArg (wR G) (by first | (have eh : rPfHit R a w = true := (by rw [rPfHit, ← ef]; exact decide_eq_true ⟨by omega, by omega, by omega⟩); rw [rPfR, if_pos eh]; done) | (have eo : rPfOk R a = false := (by rw [rPfOk]; first | (rw [h189]; rfl) | (rw [decide_eq_false (fun z => absurd z (by rw [← e16]; omega))]; simp)); rw [rPfR, hK167, eo]; rfl) | (have eo : rPfOk R a = true := (by rw [rPfOk, h189, decide_eq_true (show iand (R 16 a.toNat) (rPfNeeds R) = rPfNeeds R by rw [← e16]; omega)]; rfl); rw [rPfR, if_neg (by rw [hK167]; decide)]; first | (rw [if_pos ⟨eo, by rw [← e17]; omega⟩, rPfPut, ← hJ]; rfl) | (rw [if_neg (fun z => absurd z.2 (by rw [← e17]; omega))]; done)))⟩
                  · skip
                    refine x_iload 219 C dX12_preflight_217 rfl rfl ?_
                    refine x_iconst 220 C dX12_preflight_219 rfl ?_
                    refine x_icmp_ne 223 239 C dX12_preflight_220 rfl (by decide) (by first | exact iand_in _ _ | exact hr1 _ _ | exact hw.2.2.1 _ _ | exact hr0 _ _ | assumption | omega | exact ⟨by omega, by omega⟩) (by first | exact iand_in _ _ | exact hr1 _ _ | exact hw.2.2.1 _ _ | exact hr0 _ _ | assumption | omega | exact ⟨by omega, by omega⟩) (fun h220 => ?_) (fun h220 => ?_)
                    · skip
                      first | (have hA1 : rPfFd R a w = -1 := (by omega); exact x_as (congrArg (wR G) (show rPf2 R a w = _ by rw [rPf2, if_pos hA1])) (by first | (simp only [rPfI, if_pos hA1]; done) | (simp only [rPfI, if_pos hA1]; rfl)) rfl (hJ239 (rPf2 R a w) rfl)) | (have hA1 : ¬ rPfFd R a w = -1 := (by omega); exact x_as (congrArg (wR G) (show rPf2 R a w = _ by rw [rPf2, if_neg hA1])) (by first | (simp only [rPfI, if_neg hA1, ef]; done) | (simp only [rPfI, if_neg hA1, ef]; rfl)) rfl (hJ239 (rPf2 R a w) rfl))
                    · skip
                      refine x_aload_n 224 C dX12_preflight_223 rfl rfl ?_
                      refine x_mget 227 54 C fr_X12_330 dX12_preflight_224 rfl rfl hM ?_
                      (try simp only [u2r, false_and, and_false, true_and, and_true, ↓reduceIte, Nat.reduceEqDiff])
                      refine x_istore 229 C dX12_preflight_227 rfl rfl rfl ?_
                      refine x_aload_n 230 C dX12_preflight_229 rfl rfl ?_
                      refine x_dup 231 C dX12_preflight_230 rfl rfl ?_
                      refine x_mget 234 54 C fr_X12_330 dX12_preflight_231 rfl rfl hM ?_
                      (try simp only [u2r, false_and, and_false, true_and, and_true, ↓reduceIte, Nat.reduceEqDiff])
                      refine x_iconst 235 C dX12_preflight_234 rfl ?_
                      refine x_iadd 236 C dX12_preflight_235 rfl ?_
                      refine x_mput 239 54 C fw_X12_330 dX12_preflight_236 rfl rfl rfl hM (by first | exact iand_in _ _ | exact hr1 _ _ | exact hw.2.2.1 _ _ | exact hr0 _ _ | assumption | omega | exact ⟨by omega, by omega⟩) (fun z => absurd z (by decide)) ?_
                      refine x_wf (fun hw => ?_)
                      first | (have hA1 : rPfFd R a w = -1 := (by omega); exact x_as (congrArg (wR G) (show rPf2 R a w = _ by rw [rPf2, if_pos hA1])) (by first | (simp only [rPfI, if_pos hA1]; done) | (simp only [rPfI, if_pos hA1]; rfl)) rfl (hJ239 (rPf2 R a w) rfl)) | (have hA1 : ¬ rPfFd R a w = -1 := (by omega); exact x_as (congrArg (wR G) (show rPf2 R a w = _ by rw [rPf2, if_neg hA1])) (by first | (simp only [rPfI, if_neg hA1, ef]; done) | (simp only [rPfI, if_neg hA1, ef]; rfl)) rfl (hJ239 (rPf2 R a w) rfl))
              · skip
                refine x_iconst 207 C dX12_preflight_206 rfl ?_
                exact x_iret C dX12_preflight_207 (by first | rfl | exact nar_b _ | exact nar_01 (by first | assumption | omega | exact hw.2.2.2.2.1 _ _ rfl | exact hz0 _ _ rfl)) ⟨vi (by have eo : rPfOk R a = false := (by rw [rPfOk]; first | (rw [h189]; rfl) | (rw [decide_eq_false (fun z => absurd z (by rw [← e16]; omega))]; simp)); rw [rPf, hK167, eo]; rfl), congrArg (wR G) (by first | (have eh : rPfHit R a w = true := (by rw [rPfHit, ← ef]; exact decide_eq_true ⟨by omega, by omega, by omega⟩); rw [rPfR, if_pos eh]; done) | (have eo : rPfOk R a = false := (by rw [rPfOk]; first | (rw [h189]; rfl) | (rw [decide_eq_false (fun z => absurd z (by rw [← e16]; omega))]; simp)); rw [rPfR, hK167, eo]; rfl) | (have eo : rPfOk R a = true := (by rw [rPfOk, h189, decide_eq_true (show iand (R 16 a.toNat) (rPfNeeds R) = rPfNeeds R by rw [← e16]; omega)]; rfl); rw [rPfR, if_neg (by rw [hK167]; decide)]; first | (rw [if_pos ⟨eo, by rw [← e17]; omega⟩, rPfPut, ← hJ]; rfl) | (rw [if_neg (fun z => absurd z.2 (by rw [← e17]; omega))]; done)))⟩
          · skip
            have ef : f = rPfFd R a w := by (rw [i3, show k = R 54 0 by omega]; rfl)
            refine x_iload 132 C dX12_preflight_130 rfl rfl ?_
            refine x_iconst 133 C dX12_preflight_132 rfl ?_
            refine x_icmp_eq 136 167 C dX12_preflight_133 rfl (by decide) (by first | exact iand_in _ _ | exact hr1 _ _ | exact hw.2.2.1 _ _ | exact hr0 _ _ | assumption | omega | exact ⟨by omega, by omega⟩) (by first | exact iand_in _ _ | exact hr1 _ _ | exact hw.2.2.1 _ _ | exact hr0 _ _ | assumption | omega | exact ⟨by omega, by omega⟩) (fun h133 => ?_) (fun h133 => ?_)
            · skip
              exact hJ167 () (by rw [rPfHit, ← ef]; exact decide_eq_false (fun z => by (first | exact z.1 (by omega) | exact absurd z.2.1 (by omega) | exact absurd z.2.2 (by omega))))
            · skip
              refine x_aload_n 137 C dX12_preflight_136 rfl rfl ?_
              refine x_mget 140 0 C fr_X12_244 dX12_preflight_137 rfl rfl hM ?_
              refine x_aload_n 141 C dX12_preflight_140 rfl rfl ?_
              refine x_mrow 144 60 C fr_X12_155 dX12_preflight_141 rfl rfl hM ?_
              refine x_iload 146 C dX12_preflight_144 rfl rfl ?_
              refine x_mldI 147 60 C dX12_preflight_146 rfl rfl hM (by first | exact hIx | exact ⟨by omega, Int.lt_of_lt_of_le (b := 256) (by omega) (by decide)⟩) ?_
              refine x_icmp_ge 150 167 C dX12_preflight_147 rfl (by decide) (by first | exact iand_in _ _ | exact hr1 _ _ | exact hw.2.2.1 _ _ | exact hr0 _ _ | assumption | omega | exact ⟨by omega, by omega⟩) (by first | exact iand_in _ _ | exact hr1 _ _ | exact hw.2.2.1 _ _ | exact hr0 _ _ | assumption | omega | exact ⟨by omega, by omega⟩) (fun h147 => ?_) (fun h147 => ?_)
              · skip
                exact hJ167 () (by rw [rPfHit, ← ef]; exact decide_eq_false (fun z => by (first | exact z.1 (by omega) | exact absurd z.2.1 (by omega) | exact absurd z.2.2 (by omega))))
              · skip
                refine x_aload_n 151 C dX12_preflight_150 rfl rfl ?_
                refine x_mrow 154 59 C fr_X12_152 dX12_preflight_151 rfl rfl hM ?_
                refine x_iload 156 C dX12_preflight_154 rfl rfl ?_
                refine x_mldI 157 59 C dX12_preflight_156 rfl rfl hM (by first | exact hIx | exact ⟨by omega, Int.lt_of_lt_of_le (b := 256) (by omega) (by decide)⟩) ?_
                refine x_iload 159 C dX12_preflight_157 rfl rfl ?_
                refine x_iand 160 C dX12_preflight_159 rfl ?_
                refine x_iload 162 C dX12_preflight_160 rfl rfl ?_
                refine x_icmp_ne 165 167 C dX12_preflight_162 rfl (by decide) (by first | exact iand_in _ _ | exact hr1 _ _ | exact hw.2.2.1 _ _ | exact hr0 _ _ | assumption | omega | exact ⟨by omega, by omega⟩) (by first | exact iand_in _ _ | exact hr1 _ _ | exact hw.2.2.1 _ _ | exact hr0 _ _ | assumption | omega | exact ⟨by omega, by omega⟩) (fun h162 => ?_) (fun h162 => ?_)
                · skip
                  exact hJ167 () (by rw [rPfHit, ← ef]; exact decide_eq_false (fun z => by (first | exact z.1 (by omega) | exact absurd z.2.1 (by omega) | exact absurd z.2.2 (by omega))))
                · skip
                  refine x_iconst 166 C dX12_preflight_165 rfl ?_
                  exact x_iret C dX12_preflight_166 (by first | rfl | exact nar_b _ | exact nar_01 (by first | assumption | omega | exact hw.2.2.2.2.1 _ _ rfl | exact hz0 _ _ rfl)) ⟨vi (by have eh : rPfHit R a w = true := (by rw [rPfHit, ← ef]; exact decide_eq_true ⟨by omega, by omega, by omega⟩); rw [rPf, eh]; rfl), congrArg (wR G) (by first | (have eh : rPfHit R a w = true := (by rw [rPfHit, ← ef]; exact decide_eq_true ⟨by omega, by omega, by omega⟩); rw [rPfR, if_pos eh]; done) | (have eo : rPfOk R a = false := (by rw [rPfOk]; first | (rw [h189]; rfl) | (rw [decide_eq_false (fun z => absurd z (by rw [← e16]; omega))]; simp)); rw [rPfR, hK167, eo]; rfl) | (have eo : rPfOk R a = true := (by rw [rPfOk, h189, decide_eq_true (show iand (R 16 a.toNat) (rPfNeeds R) = rPfNeeds R by rw [← e16]; omega)]; rfl); rw [rPfR, if_neg (by rw [hK167]; decide)]; first | (rw [if_pos ⟨eo, by rw [← e17]; omega⟩, rPfPut, ← hJ]; rfl) | (rw [if_neg (fun z => absurd z.2 (by rw [← e17]; omega))]; done)))⟩
        · skip
          refine x_joinv 122 (fun vJ => vJ = if R 55 k.toNat = rPfOrg R ∧ R 56 k.toNat = a ∧ R 57 k.toNat = R 63 0 ∧ R 58 k.toNat = w then k else f) ?_ (fun hJ122 => ?_)
          · intro vJ hJ
            subst hJ
            refine x_istore 124 C dX12_preflight_122 rfl rfl rfl ?_
            refine x_iinc 127 C dX12_preflight_124 rfl rfl rfl rfl ?_
            refine x_goto 59 C dX12_preflight_127 (by decide) ?_
            exact ih (if R 55 k.toNat = rPfOrg R ∧ R 56 k.toNat = a ∧ R 57 k.toNat = R 63 0 ∧ R 58 k.toNat = w then k else f, k + 1) ⟨by dsimp only; omega, by dsimp only; omega, by dsimp only; rw [show (k + 1).toNat = k.toNat + 1 by omega, rPfF, show ((k.toNat : Nat) : Int) = k by omega, ← i3]⟩ (by dsimp only; omega)
          · skip
            refine x_aload_n 69 C dX12_preflight_68 rfl rfl ?_
            refine x_mrow 72 55 C fr_X12_140 dX12_preflight_69 rfl rfl hM ?_
            refine x_iload 74 C dX12_preflight_72 rfl rfl ?_
            refine x_mldI 75 55 C dX12_preflight_74 rfl rfl hM (by first | exact hIx | exact ⟨by omega, Int.lt_of_lt_of_le (b := 256) (by omega) (by decide)⟩) ?_
            refine x_iload_n 76 C dX12_preflight_75 rfl rfl ?_
            refine x_icmp_ne 79 120 C dX12_preflight_76 rfl (by decide) (by first | exact iand_in _ _ | exact hr1 _ _ | exact hw.2.2.1 _ _ | exact hr0 _ _ | assumption | omega | exact ⟨by omega, by omega⟩) (by first | exact iand_in _ _ | exact hr1 _ _ | exact hw.2.2.1 _ _ | exact hr0 _ _ | assumption | omega | exact ⟨by omega, by omega⟩) (fun h76 => ?_) (fun h76 => ?_)
            · skip
              refine x_iload 122 C dX12_preflight_120 rfl rfl ?_
              exact hJ122 _ (by first | (simp [bI, h76]; done) | (simp [bI, h76]; omega) | (simp [bI, h76] at *; omega))
            · skip
              refine x_aload_n 80 C dX12_preflight_79 rfl rfl ?_
              refine x_mrow 83 56 C fr_X12_143 dX12_preflight_80 rfl rfl hM ?_
              refine x_iload 85 C dX12_preflight_83 rfl rfl ?_
              refine x_mldI 86 56 C dX12_preflight_85 rfl rfl hM (by first | exact hIx | exact ⟨by omega, Int.lt_of_lt_of_le (b := 256) (by omega) (by decide)⟩) ?_
              refine x_iload_n 87 C dX12_preflight_86 rfl rfl ?_
              refine x_icmp_ne 90 120 C dX12_preflight_87 rfl (by decide) (by first | exact iand_in _ _ | exact hr1 _ _ | exact hw.2.2.1 _ _ | exact hr0 _ _ | assumption | omega | exact ⟨by omega, by omega⟩) (by first | exact iand_in _ _ | exact hr1 _ _ | exact hw.2.2.1 _ _ | exact hr0 _ _ | assumption | omega | exact ⟨by omega, by omega⟩) (fun h87 => ?_) (fun h87 => ?_)
              · skip
                refine x_iload 122 C dX12_preflight_120 rfl rfl ?_
                exact hJ122 _ (by first | (simp [bI, h76, h87]; done) | (simp [bI, h76, h87]; omega) | (simp [bI, h76, h87] at *; omega))
              · skip
                refine x_aload_n 91 C dX12_preflight_90 rfl rfl ?_
                refine x_mrow 94 57 C fr_X12_146 dX12_preflight_91 rfl rfl hM ?_
                refine x_iload 96 C dX12_preflight_94 rfl rfl ?_
                refine x_mldZ 97 57 C dX12_preflight_96 rfl rfl hM (by first | exact hIx | exact ⟨by omega, Int.lt_of_lt_of_le (b := 256) (by omega) (by decide)⟩) ?_
                refine x_aload_n 98 C dX12_preflight_97 rfl rfl ?_
                refine x_mget 101 63 C fr_X12_318 dX12_preflight_98 rfl rfl hM ?_
                refine x_icmp_ne 104 120 C dX12_preflight_101 rfl (by decide) (by first | exact iand_in _ _ | exact hr1 _ _ | exact hw.2.2.1 _ _ | exact hr0 _ _ | assumption | omega | exact ⟨by omega, by omega⟩) (by first | exact iand_in _ _ | exact hr1 _ _ | exact hw.2.2.1 _ _ | exact hr0 _ _ | assumption | omega | exact ⟨by omega, by omega⟩) (fun h101 => ?_) (fun h101 => ?_)
                · skip
                  refine x_iload 122 C dX12_preflight_120 rfl rfl ?_
                  exact hJ122 _ (by first | (simp [bI, h76, h87, h101]; done) | (simp [bI, h76, h87, h101]; omega) | (simp [bI, h76, h87, h101] at *; omega))
                · skip
                  refine x_aload_n 105 C dX12_preflight_104 rfl rfl ?_
                  refine x_mrow 108 58 C fr_X12_149 dX12_preflight_105 rfl rfl hM ?_
                  refine x_iload 110 C dX12_preflight_108 rfl rfl ?_
                  refine x_mldI 111 58 C dX12_preflight_110 rfl rfl hM (by first | exact hIx | exact ⟨by omega, Int.lt_of_lt_of_le (b := 256) (by omega) (by decide)⟩) ?_
                  refine x_iload_n 112 C dX12_preflight_111 rfl rfl ?_
                  refine x_icmp_ne 115 120 C dX12_preflight_112 rfl (by decide) (by first | exact iand_in _ _ | exact hr1 _ _ | exact hw.2.2.1 _ _ | exact hr0 _ _ | assumption | omega | exact ⟨by omega, by omega⟩) (by first | exact iand_in _ _ | exact hr1 _ _ | exact hw.2.2.1 _ _ | exact hr0 _ _ | assumption | omega | exact ⟨by omega, by omega⟩) (fun h112 => ?_) (fun h112 => ?_)
                  · skip
                    refine x_iload 122 C dX12_preflight_120 rfl rfl ?_
                    exact hJ122 _ (by first | (simp [bI, h76, h87, h101, h112]; done) | (simp [bI, h76, h87, h101, h112]; omega) | (simp [bI, h76, h87, h101, h112] at *; omega))
                  · skip
                    refine x_iload 117 C dX12_preflight_115 rfl rfl ?_
                    refine x_goto 122 C dX12_preflight_117 (by decide) ?_
                    exact hJ122 _ (by first | (simp [bI, h76, h87, h101, h112]; done) | (simp [bI, h76, h87, h101, h112]; omega) | (simp [bI, h76, h87, h101, h112] at *; omega))
      · skip
        refine x_aload_n 39 C dX12_preflight_38 rfl rfl ?_
        refine x_mget 42 65 C fr_X12_327 dX12_preflight_39 rfl rfl hM ?_
        refine x_if_eq 45 49 C dX12_preflight_42 rfl (by decide) (by first | exact iand_in _ _ | exact hr1 _ _ | exact hw.2.2.1 _ _ | exact hr0 _ _ | assumption | omega | exact ⟨by omega, by omega⟩) (fun h42 => ?_) (fun h42 => ?_)
        · skip
          refine x_iconst 50 C dX12_preflight_49 rfl ?_
          exact hJ50 _ (by first | (simp [bI, h42]; done) | (simp [bI, h42]; omega) | (simp [bI, h42] at *; omega))
        · skip
          refine x_iconst 46 C dX12_preflight_45 rfl ?_
          refine x_goto 50 C dX12_preflight_46 (by decide) ?_
          exact hJ50 _ (by first | (simp [bI, h42]; done) | (simp [bI, h42]; omega) | (simp [bI, h42] at *; omega))
    · skip
      refine x_aload_n 26 C dX12_preflight_25 rfl rfl ?_
      refine x_mget 29 66 C fr_X12_306 dX12_preflight_26 rfl rfl hM ?_
      refine x_iconst 30 C dX12_preflight_29 rfl ?_
      refine x_icmp_ne 33 37 C dX12_preflight_30 rfl (by decide) (by first | exact iand_in _ _ | exact hr1 _ _ | exact hw.2.2.1 _ _ | exact hr0 _ _ | assumption | omega | exact ⟨by omega, by omega⟩) (by first | exact iand_in _ _ | exact hr1 _ _ | exact hw.2.2.1 _ _ | exact hr0 _ _ | assumption | omega | exact ⟨by omega, by omega⟩) (fun h30 => ?_) (fun h30 => ?_)
      · skip
        refine x_iconst 38 C dX12_preflight_37 rfl ?_
        exact hJ38 _ (by first | (simp [bI, h30]; done) | (simp [bI, h30]; omega) | (simp [bI, h30] at *; omega))
      · skip
        refine x_iconst 34 C dX12_preflight_33 rfl ?_
        refine x_goto 38 C dX12_preflight_34 (by decide) ?_
        exact hJ38 _ (by first | (simp [bI, h30]; done) | (simp [bI, h30]; omega) | (simp [bI, h30] at *; omega))
  · skip
    refine x_aload_n 1 C dX12_preflight_0 rfl rfl ?_
    refine x_mget 4 67 C fr_X12_321 dX12_preflight_1 rfl rfl hM ?_
    refine x_if_eq 7 11 C dX12_preflight_4 rfl (by decide) (by first | exact iand_in _ _ | exact hr1 _ _ | exact hw.2.2.1 _ _ | exact hr0 _ _ | assumption | omega | exact ⟨by omega, by omega⟩) (fun h4 => ?_) (fun h4 => ?_)
    · skip
      refine x_aload_n 12 C dX12_preflight_11 rfl rfl ?_
      refine x_aload_n 13 C dX12_preflight_12 rfl rfl ?_
      refine x_mrow 16 25 C fr_X12_68 dX12_preflight_13 rfl rfl hM ?_
      refine x_aload_n 17 C dX12_preflight_16 rfl rfl ?_
      refine x_mget 20 61 C fr_X12_312 dX12_preflight_17 rfl rfl hM ?_
      refine x_mldI 21 25 C dX12_preflight_20 rfl rfl hM (by first | exact hIx | exact ⟨by omega, Int.lt_of_lt_of_le (b := 8) (by omega) (by decide)⟩) ?_
      refine x_Vr (As := [_]) 24 C vw_X12_324 iw_X12_originOf sw_X12_originOf (c_X12_originOf hM hA hfr) dX12_preflight_21 rfl rfl rfl rfl rfl rfl hM.1 ⟨Nat.le_of_ble_eq_true rfl, Nat.le_of_ble_eq_true rfl⟩ (Nat.le_of_ble_eq_true rfl) ?_
      exact hJ24 _ (by first | (simp [bI, rPfOrg, h4]; done) | (simp [bI, rPfOrg, h4]; omega) | (simp [bI, rPfOrg, h4] at *; omega))
    · skip
      refine x_iconst 8 C dX12_preflight_7 rfl ?_
      refine x_goto 24 C dX12_preflight_8 (by decide) ?_
      exact hJ24 _ (by first | (simp [bI, rPfOrg, h4]; done) | (simp [bI, rPfOrg, h4]; omega) | (simp [bI, rPfOrg, h4] at *; omega))
