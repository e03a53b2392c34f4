/-! rows laid by program (wip/tools/gen.py) -/
set_option maxHeartbeats 1000000 in
set_option maxRecDepth 100000 in
theorem c_X12_does {E : EV} {l : Launch} {G : GT} {R : RT} {o : Nat} {a q : Int} (hM : RM G o) {n : Int} (hH : RH R) (hA : RA R) (hD : RAd R) (hP : RP R) (hQ : RQ R) (hS : RS R) (hX : RX R n) (hn : 0 ≤ n ∧ n ≤ 240) (h1 : 0 ≤ a ∧ a < R 7 0) (h4 : 0 ≤ q ∧ q < 240) (h5 : R 32 q.toNat = 0) (h7 : 0 ≤ R 17 a.toNat ∧ R 17 a.toNat ≤ 1000) : MT E l yX12_does cX12_does 7 (some .int) 5 123 0 0 [.ref o, .int (i32 a), .int (i32 q)] (wR G R) (pD (some (.int (i32 (rDoes R a)))) (wR G (rDoesR R a q))) := by
  refine mt_of (own := RX12) (L := [some (.ref o), some (.int (i32 a)), some (.int (i32 q)), none, none, none, none]) (by decide +kernel) rfl (Nat.le_of_ble_eq_true rfl) (List.forall_mem_cons.mpr ⟨rfl, (List.forall_mem_cons.mpr ⟨rfl, (List.forall_mem_cons.mpr ⟨rfl, (fun _ h => absurd h List.not_mem_nil)⟩)⟩)⟩) rfl ?_
  intro p e s m args below meth c C hin
  refine x_wf (fun hw => ?_)
  have hr0 : ∀ k j, InR (R k j) := hw.2.2.1
  have hz0 : ∀ k j, mZ k = true → R k j = 0 ∨ R k j = 1 := hw.2.2.2.2.1
  have hh := hA.1
  have hh2 := hA.2
  have hXX := hX
  obtain ⟨x1, x2, x3, x4, x5, x6, x7, x8, x9⟩ := hXX
  have hh0 := hH.1
  have hc1 := x1.1
  have hfr := rFrom_in hP hQ
  have hq1 := hQ.1
  have hq2 := hQ.2
  have hp1 := hP.1
  have htp : 0 ≤ rTop R (R 61 0) ∧ rTop R (R 61 0) < R 24 0 := rTopF_in hP 8 _ (by omega) (by omega)
  have hpt := (hP.2 (rTop R (R 61 0)).toNat (by omega)).1
  have hpa := rPlace_in hH hD h1.1 h1.2
  have hpf := rPlace_in hH hD hfr.1 hfr.2
  have hpg := rPlace_in hH hD hpt.1 hpt.2
  have hwi : 0 ≤ rWhere R a ∧ rWhere R a ≤ 31 := by (unfold rWhere; split <;> assumption)
  have hwI : InR (rWhere R a) := ⟨by omega, by omega⟩
  have haf : rAfar R a = 0 ∨ rAfar R a = 1 := by (unfold rAfar; split <;> omega)
  have hws : rWas R a = 0 ∨ rWas R a = 1 := by (unfold rWas; split <;> omega)
  have hF2 := rD2_Fq (R := R) (a := a)
  have hI3 := rD3_I (a := a) x2 x4.1
  have hI4 := rD4_I (a := a) hX
  have hI5 := rD5_I (a := a) (q := q) hH hA hD hS hX h1 h5
  have hT2 : (0 ≤ rD2 R a 0 0 ∧ rD2 R a 0 0 ≤ 2000000000) ∧ (0 ≤ rD2 R a 1 0 ∧ rD2 R a 1 0 ≤ 2000000000) ∧ (0 ≤ rD2 R a 45 0 ∧ rD2 R a 45 0 ≤ 2000000000) := by (show (0 ≤ R 0 0 ∧ R 0 0 ≤ 2000000000) ∧ (0 ≤ R 1 0 ∧ R 1 0 ≤ 2000000000) ∧ (0 ≤ R 45 0 ∧ R 45 0 ≤ 2000000000); omega)
  refine x_aload_n 1 C dX12_does_0 rfl rfl ?_
  refine x_mrow 4 25 C fr_X12_68 dX12_does_1 rfl rfl hM ?_
  refine x_aload_n 5 C dX12_does_4 rfl rfl ?_
  refine x_mget 8 61 C fr_X12_312 dX12_does_5 rfl rfl hM ?_
  refine x_mldI 9 25 C dX12_does_8 rfl rfl hM (by first | exact hIx | exact ⟨by omega, Int.lt_of_lt_of_le (b := 8) (by omega) (by decide)⟩) ?_
  refine x_istore_n 10 C dX12_does_9 rfl rfl rfl ?_
  refine x_joinv 43 (fun vJ => vJ = rWhere R a) ?_ (fun hJ43 => ?_)
  · intro vJ hJ
    subst hJ
    refine x_istore 45 C dX12_does_43 rfl rfl rfl ?_
    refine x_joinv 66 (fun vJ => vJ = bI (rCross R a)) ?_ (fun hJ66 => ?_)
    · intro vJ hJ
      subst hJ
      refine x_istore 68 C dX12_does_66 rfl rfl rfl ?_
      refine x_aload_n 69 C dX12_does_68 rfl rfl ?_
      refine x_joinv 94 (fun vJ => vJ = rAfar R a) ?_ (fun hJ94 => ?_)
      · intro vJ hJ
        subst hJ
        refine x_mput 97 68 C fw_X12_273 dX12_does_94 rfl rfl rfl hM (by first | exact hw.2.2.1 _ _ | exact hr0 _ _ | assumption | omega | exact ⟨by omega, by omega⟩) (fun _ => by first | assumption | omega | exact bI_01 _ | exact hw.2.2.2.2.1 _ _ rfl | exact hz0 _ _ rfl) ?_
        refine x_wf (fun hw => ?_)
        refine x_aload_n 98 C dX12_does_97 rfl rfl ?_
        refine x_joinv 115 (fun vJ => vJ = rWas R a) ?_ (fun hJ115 => ?_)
        · intro vJ hJ
          subst hJ
          refine x_mput 118 69 C fw_X12_352 dX12_does_115 rfl rfl rfl hM (by first | exact hw.2.2.1 _ _ | exact hr0 _ _ | assumption | omega | exact ⟨by omega, by omega⟩) (fun _ => by first | assumption | omega | exact bI_01 _ | exact hw.2.2.2.2.1 _ _ rfl | exact hz0 _ _ rfl) ?_
          refine x_wf (fun hw => ?_)
          refine x_as (G' := wR G (rD2 R a)) (congrArg (wR G) rfl) rfl rfl ?_
          refine x_join (α := Unit) 158 (fun u => rStops R a = false) (fun u => wR G (rD3 R a)) (fun u => [some (.ref o), some (.int (i32 a)), some (.int (i32 q)), some (.int (i32 (rFrom R))), some (.int (i32 (rWhere R a))), some (.int (i32 (bI (rCross R a)))), none]) (fun u => []) ?_ (fun hJ158 => ?_)
          · intro aa hJ
            obtain ⟨u, rfl⟩ := (⟨aa, rfl⟩ : ∃ z, z = aa)
            (try dsimp only at hJ); (try dsimp only)
            have e63 : rD3 R a 63 0 = R 63 0 := congrFun (rD3_Fq 63 (by decide) (by decide) (by decide) (by decide)) 0
            have e64 : rD3 R a 64 0 = R 64 0 := congrFun (rD3_Fq 64 (by decide) (by decide) (by decide) (by decide)) 0
            have e0 : rD3 R a 0 0 = R 0 0 := congrFun (rD3_Fq 0 (by decide) (by decide) (by decide) (by decide)) 0
            have hK158 := hJ
            refine x_wf (fun hw => ?_)
            refine x_joinv 182 (fun vJ => vJ = bI (rUsed R a)) ?_ (fun hJ182 => ?_)
            · intro vJ hJ
              subst hJ
              refine x_istore 184 C dX12_does_182 rfl rfl rfl ?_
              refine x_aload_n 185 C dX12_does_184 rfl rfl ?_
              refine x_iload_n 186 C dX12_does_185 rfl rfl ?_
              refine x_iload 188 C dX12_does_186 rfl rfl ?_
              refine x_iload 190 C dX12_does_188 rfl rfl ?_
              refine x_Vv (As := [_, _, _]) 193 C vw_X12_336 iw_X12_connects sw_X12_connects (c_X12_connects (R := rD3 R a) hM (rD3_Fq.Fs.A hA) (rD3_Fq.Fs.Ad hD) hI3.2.1 (by rw [rD3_Fq 7 (by decide) (by decide) (by decide) (by decide)]; exact h1) (bI_01 _) hwI (by have := hI3.2.2; omega)) dX12_does_190 rfl rfl rfl rfl rfl rfl hM.1 ⟨Nat.le_of_ble_eq_true rfl, Nat.le_of_ble_eq_true rfl⟩ (Nat.le_of_ble_eq_true rfl) ?_
              refine x_wf (fun hw => ?_)
              rw [show rConR (rD3 R a) a (bI (rUsed R a)) (rWhere R a) = rD4 R a from rfl]
              refine x_join (α := Unit) 213 (fun u => True) (fun u => wR G (rD5 R a q)) (fun u => [some (.ref o), some (.int (i32 a)), some (.int (i32 q)), some (.int (i32 (rFrom R))), some (.int (i32 (rWhere R a))), some (.int (i32 (bI (rCross R a)))), some (.int (i32 (bI (rUsed R a))))]) (fun u => []) ?_ (fun hJ213 => ?_)
              · intro aa hJ
                obtain ⟨u, rfl⟩ := (⟨aa, rfl⟩ : ∃ z, z = aa)
                (try dsimp only at hJ); (try dsimp only)
                have e62 : rD5 R a q 62 0 = R 62 0 := congrFun (hI5.1 62 (by decide) (by decide) (by decide) (by decide)) 0
                have e12 : rD5 R a q 12 = R 12 := hI5.1 12 (by decide) (by decide) (by decide) (by decide)
                refine x_wf (fun hw => ?_)
                refine x_aload_n 214 C dX12_does_213 rfl rfl ?_
                refine x_mget 217 62 C fr_X12_276 dX12_does_214 rfl rfl hM ?_
                (try simp only [u2r, false_and, and_false, true_and, and_true, ↓reduceIte, Nat.reduceEqDiff])
                rw [e62]
                refine x_iconst 218 C dX12_does_217 rfl ?_
                refine x_icmp_ne 221 236 C dX12_does_218 rfl (by decide) (by first | exact hw.2.2.1 _ _ | exact hr0 _ _ | assumption | omega | exact ⟨by omega, by omega⟩) (by first | exact hw.2.2.1 _ _ | exact hr0 _ _ | assumption | omega | exact ⟨by omega, by omega⟩) (fun h218 => ?_) (fun h218 => ?_)
                · skip
                  refine x_aload_n 237 C dX12_does_236 rfl rfl ?_
                  refine x_mrow 240 12 C fr_X12_32 dX12_does_237 rfl rfl hM ?_
                  refine x_iload_n 241 C dX12_does_240 rfl rfl ?_
                  refine x_mldI 242 12 C dX12_does_241 rfl rfl hM (by first | exact hIx | exact ⟨by omega, Int.lt_of_lt_of_le (b := 24) (by omega) (by decide)⟩) ?_
                  (try simp only [u2r, false_and, and_false, true_and, and_true, ↓reduceIte, Nat.reduceEqDiff])
                  rw [e12]
                  refine x_iconst 243 C dX12_does_242 rfl ?_
                  refine x_icmp_ne 246 266 C dX12_does_243 rfl (by decide) (by first | exact hw.2.2.1 _ _ | exact hr0 _ _ | assumption | omega | exact ⟨by omega, by omega⟩) (by first | exact hw.2.2.1 _ _ | exact hr0 _ _ | assumption | omega | exact ⟨by omega, by omega⟩) (fun h243 => ?_) (fun h243 => ?_)
                  · skip
                    refine x_iconst 267 C dX12_does_266 rfl ?_
                    exact x_iret C dX12_does_267 rfl ⟨vi (by rw [show rDoes R a = -1 by (unfold rDoes; rw [hK158, if_neg (by decide), if_neg (fun z => by simp only [Bool.and_eq_true, decide_eq_true_iff] at z; first | omega | exact absurd z.2.1 (by rw [h223]; decide) | exact absurd z.2.2 (by rw [h231]; decide)), if_neg (by omega)])]), congrArg (wR G) (by first | (rw [rDoesR, hK158, if_neg (by decide)]; done) | (have es : rStops R a = true := (by rw [rStops, rNeed, decide_eq_true (show R 62 0 = 1 by omega), h128, h153]; first | (rw [decide_eq_true (show R 66 0 = 2 by omega)]; rfl) | (rw [decide_eq_true (show ¬ R 65 0 = 0 by omega)]; simp)); have en : rNeed R a = true := (by have := es; rw [rStops] at this; simp only [Bool.and_eq_true] at this; exact this.1); rw [rDoesR, if_pos es, rD3, if_pos en]))⟩
                  · skip
                    refine x_joinv 265 (fun vJ => vJ = if R 62 0 = 0 ∧ ¬ rWas R a = 0 then 1 else 0) ?_ (fun hJ265 => ?_)
                    · intro vJ hJ
                      subst hJ
                      exact x_iret C dX12_does_265 rfl ⟨vi (by rw [show rDoes R a = (if R 62 0 = 0 ∧ ¬ rWas R a = 0 then 1 else 0) by (unfold rDoes; rw [hK158, if_neg (by decide), if_neg (fun z => by simp only [Bool.and_eq_true, decide_eq_true_iff] at z; first | omega | exact absurd z.2.1 (by rw [h223]; decide) | exact absurd z.2.2 (by rw [h231]; decide)), if_pos (by omega)])]), congrArg (wR G) (by first | (rw [rDoesR, hK158, if_neg (by decide)]; done) | (have es : rStops R a = true := (by rw [rStops, rNeed, decide_eq_true (show R 62 0 = 1 by omega), h128, h153]; first | (rw [decide_eq_true (show R 66 0 = 2 by omega)]; rfl) | (rw [decide_eq_true (show ¬ R 65 0 = 0 by omega)]; simp)); have en : rNeed R a = true := (by have := es; rw [rStops] at this; simp only [Bool.and_eq_true] at this; exact this.1); rw [rDoesR, if_pos es, rD3, if_pos en]))⟩
                    · skip
                      refine x_aload_n 247 C dX12_does_246 rfl rfl ?_
                      refine x_mget 250 62 C fr_X12_276 dX12_does_247 rfl rfl hM ?_
                      (try simp only [u2r, false_and, and_false, true_and, and_true, ↓reduceIte, Nat.reduceEqDiff])
                      rw [e62]
                      refine x_if_ne 253 264 C dX12_does_250 rfl (by decide) (by first | exact hw.2.2.1 _ _ | exact hr0 _ _ | assumption | omega | exact ⟨by omega, by omega⟩) (fun h250 => ?_) (fun h250 => ?_)
                      · skip
                        refine x_iconst 265 C dX12_does_264 rfl ?_
                        exact hJ265 _ (by first | (simp [bI, h250]; done) | (simp [bI, h250]; omega) | (simp [bI, h250] at *; omega))
                      · skip
                        refine x_aload_n 254 C dX12_does_253 rfl rfl ?_
                        refine x_mget 257 69 C fr_X12_352 dX12_does_254 rfl rfl hM ?_
                        (try simp only [u2r, false_and, and_false, true_and, and_true, ↓reduceIte, Nat.reduceEqDiff])
                        rw [hI5.2.2]
                        refine x_if_eq 260 264 C dX12_does_257 rfl (by decide) (by first | exact hw.2.2.1 _ _ | exact hr0 _ _ | assumption | omega | exact ⟨by omega, by omega⟩) (fun h257 => ?_) (fun h257 => ?_)
                        · skip
                          refine x_iconst 265 C dX12_does_264 rfl ?_
                          exact hJ265 _ (by first | (simp [bI, h250, h257]; done) | (simp [bI, h250, h257]; omega) | (simp [bI, h250, h257] at *; omega))
                        · skip
                          refine x_iconst 261 C dX12_does_260 rfl ?_
                          refine x_goto 265 C dX12_does_261 (by decide) ?_
                          exact hJ265 _ (by first | (simp [bI, h250, h257]; done) | (simp [bI, h250, h257]; omega) | (simp [bI, h250, h257] at *; omega))
                · skip
                  refine x_iload 223 C dX12_does_221 rfl rfl ?_
                  refine x_if_eqB 226 236 C dX12_does_223 rfl (by decide) (fun h223 => ?_) (fun h223 => ?_)
                  · skip
                    refine x_aload_n 237 C dX12_does_236 rfl rfl ?_
                    refine x_mrow 240 12 C fr_X12_32 dX12_does_237 rfl rfl hM ?_
                    refine x_iload_n 241 C dX12_does_240 rfl rfl ?_
                    refine x_mldI 242 12 C dX12_does_241 rfl rfl hM (by first | exact hIx | exact ⟨by omega, Int.lt_of_lt_of_le (b := 24) (by omega) (by decide)⟩) ?_
                    (try simp only [u2r, false_and, and_false, true_and, and_true, ↓reduceIte, Nat.reduceEqDiff])
                    rw [e12]
                    refine x_iconst 243 C dX12_does_242 rfl ?_
                    refine x_icmp_ne 246 266 C dX12_does_243 rfl (by decide) (by first | exact hw.2.2.1 _ _ | exact hr0 _ _ | assumption | omega | exact ⟨by omega, by omega⟩) (by first | exact hw.2.2.1 _ _ | exact hr0 _ _ | assumption | omega | exact ⟨by omega, by omega⟩) (fun h243 => ?_) (fun h243 => ?_)
                    · skip
                      refine x_iconst 267 C dX12_does_266 rfl ?_
                      exact x_iret C dX12_does_267 rfl ⟨vi (by rw [show rDoes R a = -1 by (unfold rDoes; rw [hK158, if_neg (by decide), if_neg (fun z => by simp only [Bool.and_eq_true, decide_eq_true_iff] at z; first | omega | exact absurd z.2.1 (by rw [h223]; decide) | exact absurd z.2.2 (by rw [h231]; decide)), if_neg (by omega)])]), congrArg (wR G) (by first | (rw [rDoesR, hK158, if_neg (by decide)]; done) | (have es : rStops R a = true := (by rw [rStops, rNeed, decide_eq_true (show R 62 0 = 1 by omega), h128, h153]; first | (rw [decide_eq_true (show R 66 0 = 2 by omega)]; rfl) | (rw [decide_eq_true (show ¬ R 65 0 = 0 by omega)]; simp)); have en : rNeed R a = true := (by have := es; rw [rStops] at this; simp only [Bool.and_eq_true] at this; exact this.1); rw [rDoesR, if_pos es, rD3, if_pos en]))⟩
                    · skip
                      refine x_joinv 265 (fun vJ => vJ = if R 62 0 = 0 ∧ ¬ rWas R a = 0 then 1 else 0) ?_ (fun hJ265 => ?_)
                      · intro vJ hJ
                        subst hJ
                        exact x_iret C dX12_does_265 rfl ⟨vi (by rw [show rDoes R a = (if R 62 0 = 0 ∧ ¬ rWas R a = 0 then 1 else 0) by (unfold rDoes; rw [hK158, if_neg (by decide), if_neg (fun z => by simp only [Bool.and_eq_true, decide_eq_true_iff] at z; first | omega | exact absurd z.2.1 (by rw [h223]; decide) | exact absurd z.2.2 (by rw [h231]; decide)), if_pos (by omega)])]), congrArg (wR G) (by first | (rw [rDoesR, hK158, if_neg (by decide)]; done) | (have es : rStops R a = true := (by rw [rStops, rNeed, decide_eq_true (show R 62 0 = 1 by omega), h128, h153]; first | (rw [decide_eq_true (show R 66 0 = 2 by omega)]; rfl) | (rw [decide_eq_true (show ¬ R 65 0 = 0 by omega)]; simp)); have en : rNeed R a = true := (by have := es; rw [rStops] at this; simp only [Bool.and_eq_true] at this; exact this.1); rw [rDoesR, if_pos es, rD3, if_pos en]))⟩
                      · skip
                        refine x_aload_n 247 C dX12_does_246 rfl rfl ?_
                        refine x_mget 250 62 C fr_X12_276 dX12_does_247 rfl rfl hM ?_
                        (try simp only [u2r, false_and, and_false, true_and, and_true, ↓reduceIte, Nat.reduceEqDiff])
                        rw [e62]
                        refine x_if_ne 253 264 C dX12_does_250 rfl (by decide) (by first | exact hw.2.2.1 _ _ | exact hr0 _ _ | assumption | omega | exact ⟨by omega, by omega⟩) (fun h250 => ?_) (fun h250 => ?_)
                        · skip
                          refine x_iconst 265 C dX12_does_264 rfl ?_
                          exact hJ265 _ (by first | (simp [bI, h250]; done) | (simp [bI, h250]; omega) | (simp [bI, h250] at *; omega))
                        · skip
                          refine x_aload_n 254 C dX12_does_253 rfl rfl ?_
                          refine x_mget 257 69 C fr_X12_352 dX12_does_254 rfl rfl hM ?_
                          (try simp only [u2r, false_and, and_false, true_and, and_true, ↓reduceIte, Nat.reduceEqDiff])
                          rw [hI5.2.2]
                          refine x_if_eq 260 264 C dX12_does_257 rfl (by decide) (by first | exact hw.2.2.1 _ _ | exact hr0 _ _ | assumption | omega | exact ⟨by omega, by omega⟩) (fun h257 => ?_) (fun h257 => ?_)
                          · skip
                            refine x_iconst 265 C dX12_does_264 rfl ?_
                            exact hJ265 _ (by first | (simp [bI, h250, h257]; done) | (simp [bI, h250, h257]; omega) | (simp [bI, h250, h257] at *; omega))
                          · skip
                            refine x_iconst 261 C dX12_does_260 rfl ?_
                            refine x_goto 265 C dX12_does_261 (by decide) ?_
                            exact hJ265 _ (by first | (simp [bI, h250, h257]; done) | (simp [bI, h250, h257]; omega) | (simp [bI, h250, h257] at *; omega))
                  · skip
                    refine x_aload_n 227 C dX12_does_226 rfl rfl ?_
                    refine x_iload_n 228 C dX12_does_227 rfl rfl ?_
                    refine x_Vr (As := [_]) 231 C vw_X12_340 iw_X12_letsIt sw_X12_letsIt (c_X12_letsIt (R := rD5 R a q) hM (hI5.1.Fs.A hA) (hI5.1.Fs.Ad hD) (hI5.1.Fs.P hP) (hI5.1.Q hQ) (by rw [hI5.1 7 (by decide) (by decide) (by decide) (by decide)]; exact h1)) dX12_does_228 rfl rfl rfl rfl rfl rfl hM.1 ⟨Nat.le_of_ble_eq_true rfl, Nat.le_of_ble_eq_true rfl⟩ (Nat.le_of_ble_eq_true rfl) ?_
                    rw [hI5.1.lets]
                    refine x_if_neB 234 236 C dX12_does_231 rfl (by decide) (fun h231 => ?_) (fun h231 => ?_)
                    · skip
                      refine x_aload_n 237 C dX12_does_236 rfl rfl ?_
                      refine x_mrow 240 12 C fr_X12_32 dX12_does_237 rfl rfl hM ?_
                      refine x_iload_n 241 C dX12_does_240 rfl rfl ?_
                      refine x_mldI 242 12 C dX12_does_241 rfl rfl hM (by first | exact hIx | exact ⟨by omega, Int.lt_of_lt_of_le (b := 24) (by omega) (by decide)⟩) ?_
                      (try simp only [u2r, false_and, and_false, true_and, and_true, ↓reduceIte, Nat.reduceEqDiff])
                      rw [e12]
                      refine x_iconst 243 C dX12_does_242 rfl ?_
                      refine x_icmp_ne 246 266 C dX12_does_243 rfl (by decide) (by first | exact hw.2.2.1 _ _ | exact hr0 _ _ | assumption | omega | exact ⟨by omega, by omega⟩) (by first | exact hw.2.2.1 _ _ | exact hr0 _ _ | assumption | omega | exact ⟨by omega, by omega⟩) (fun h243 => ?_) (fun h243 => ?_)
                      · skip
                        refine x_iconst 267 C dX12_does_266 rfl ?_
                        exact x_iret C dX12_does_267 rfl ⟨vi (by rw [show rDoes R a = -1 by (unfold rDoes; rw [hK158, if_neg (by decide), if_neg (fun z => by simp only [Bool.and_eq_true, decide_eq_true_iff] at z; first | omega | exact absurd z.2.1 (by rw [h223]; decide) | exact absurd z.2.2 (by rw [h231]; decide)), if_neg (by omega)])]), congrArg (wR G) (by first | (rw [rDoesR, hK158, if_neg (by decide)]; done) | (have es : rStops R a = true := (by rw [rStops, rNeed, decide_eq_true (show R 62 0 = 1 by omega), h128, h153]; first | (rw [decide_eq_true (show R 66 0 = 2 by omega)]; rfl) | (rw [decide_eq_true (show ¬ R 65 0 = 0 by omega)]; simp)); have en : rNeed R a = true := (by have := es; rw [rStops] at this; simp only [Bool.and_eq_true] at this; exact this.1); rw [rDoesR, if_pos es, rD3, if_pos en]))⟩
                      · skip
                        refine x_joinv 265 (fun vJ => vJ = if R 62 0 = 0 ∧ ¬ rWas R a = 0 then 1 else 0) ?_ (fun hJ265 => ?_)
                        · intro vJ hJ
                          subst hJ
                          exact x_iret C dX12_does_265 rfl ⟨vi (by rw [show rDoes R a = (if R 62 0 = 0 ∧ ¬ rWas R a = 0 then 1 else 0) by (unfold rDoes; rw [hK158, if_neg (by decide), if_neg (fun z => by simp only [Bool.and_eq_true, decide_eq_true_iff] at z; first | omega | exact absurd z.2.1 (by rw [h223]; decide) | exact absurd z.2.2 (by rw [h231]; decide)), if_pos (by omega)])]), congrArg (wR G) (by first | (rw [rDoesR, hK158, if_neg (by decide)]; done) | (have es : rStops R a = true := (by rw [rStops, rNeed, decide_eq_true (show R 62 0 = 1 by omega), h128, h153]; first | (rw [decide_eq_true (show R 66 0 = 2 by omega)]; rfl) | (rw [decide_eq_true (show ¬ R 65 0 = 0 by omega)]; simp)); have en : rNeed R a = true := (by have := es; rw [rStops] at this; simp only [Bool.and_eq_true] at this; exact this.1); rw [rDoesR, if_pos es, rD3, if_pos en]))⟩
                        · skip
                          refine x_aload_n 247 C dX12_does_246 rfl rfl ?_
                          refine x_mget 250 62 C fr_X12_276 dX12_does_247 rfl rfl hM ?_
                          (try simp only [u2r, false_and, and_false, true_and, and_true, ↓reduceIte, Nat.reduceEqDiff])
                          rw [e62]
                          refine x_if_ne 253 264 C dX12_does_250 rfl (by decide) (by first | exact hw.2.2.1 _ _ | exact hr0 _ _ | assumption | omega | exact ⟨by omega, by omega⟩) (fun h250 => ?_) (fun h250 => ?_)
                          · skip
                            refine x_iconst 265 C dX12_does_264 rfl ?_
                            exact hJ265 _ (by first | (simp [bI, h250]; done) | (simp [bI, h250]; omega) | (simp [bI, h250] at *; omega))
                          · skip
                            refine x_aload_n 254 C dX12_does_253 rfl rfl ?_
                            refine x_mget 257 69 C fr_X12_352 dX12_does_254 rfl rfl hM ?_
                            (try simp only [u2r, false_and, and_false, true_and, and_true, ↓reduceIte, Nat.reduceEqDiff])
                            rw [hI5.2.2]
                            refine x_if_eq 260 264 C dX12_does_257 rfl (by decide) (by first | exact hw.2.2.1 _ _ | exact hr0 _ _ | assumption | omega | exact ⟨by omega, by omega⟩) (fun h257 => ?_) (fun h257 => ?_)
                            · skip
                              refine x_iconst 265 C dX12_does_264 rfl ?_
                              exact hJ265 _ (by first | (simp [bI, h250, h257]; done) | (simp [bI, h250, h257]; omega) | (simp [bI, h250, h257] at *; omega))
                            · skip
                              refine x_iconst 261 C dX12_does_260 rfl ?_
                              refine x_goto 265 C dX12_does_261 (by decide) ?_
                              exact hJ265 _ (by first | (simp [bI, h250, h257]; done) | (simp [bI, h250, h257]; omega) | (simp [bI, h250, h257] at *; omega))
                    · skip
                      refine x_iconst 235 C dX12_does_234 rfl ?_
                      exact x_iret C dX12_does_235 rfl ⟨vi (by rw [show rDoes R a = 3 by (unfold rDoes; rw [hK158, if_neg (by decide), if_pos (by rw [decide_eq_true (show R 62 0 = 1 by omega), h223, h231]; rfl)])]), congrArg (wR G) (by first | (rw [rDoesR, hK158, if_neg (by decide)]; done) | (have es : rStops R a = true := (by rw [rStops, rNeed, decide_eq_true (show R 62 0 = 1 by omega), h128, h153]; first | (rw [decide_eq_true (show R 66 0 = 2 by omega)]; rfl) | (rw [decide_eq_true (show ¬ R 65 0 = 0 by omega)]; simp)); have en : rNeed R a = true := (by have := es; rw [rStops] at this; simp only [Bool.and_eq_true] at this; exact this.1); rw [rDoesR, if_pos es, rD3, if_pos en]))⟩
              · skip
                refine x_iload 195 C dX12_does_193 rfl rfl ?_
                refine x_if_eqB 198 213 C dX12_does_195 rfl (by decide) (fun h195 => ?_) (fun h195 => ?_)
                · skip
                  exact x_as (congrArg (wR G) (show rD5 R a q = _ by simp [rD5, bI, h195])) rfl rfl (hJ213 () trivial)
                · skip
                  have s := rSends_I (R := rD4 R a) (a := a) (w := rWhere R a) (q := q) (by rw [rD4_out x2 x4.1 (f := 32) (by decide) (by decide) (by decide) (by decide)]; exact h5) (by have := hI4.2.2; omega) (by rw [rD4_out x2 x4.1 (f := 34) (by decide) (by decide) (by decide) (by decide)]; omega)
                  have sF : Fs R (rSends (rD4 R a) a (rWhere R a) q) := rD4_Fq.Fs.trans s.Fs
                  have s34 : rSends (rD4 R a) a (rWhere R a) q 34 0 = R 34 0 := by (rw [s.1 34 (by decide) (by decide) (by decide) (by decide), rD4_out x2 x4.1 (by decide) (by decide) (by decide) (by decide)])
                  have s0 : rSends (rD4 R a) a (rWhere R a) q 0 0 = R 0 0 := by (rw [s.1 0 (by decide) (by decide) (by decide) (by decide), rD4_out x2 x4.1 (by decide) (by decide) (by decide) (by decide)])
                  have f34 : rD4 R a 34 0 = R 34 0 := by rw [rD4_out x2 x4.1 (by decide) (by decide) (by decide) (by decide)]
                  have sb := s.2.2
                  refine x_aload_n 199 C dX12_does_198 rfl rfl ?_
                  refine x_iload_n 200 C dX12_does_199 rfl rfl ?_
                  refine x_iload 202 C dX12_does_200 rfl rfl ?_
                  refine x_iload_n 203 C dX12_does_202 rfl rfl ?_
                  refine x_Vv (As := [_, _, _]) 206 C vw_X12_361 iw_X12_sends sw_X12_sends (c_X12_sends (R := rD4 R a) hM (rD4_Fq.Fs.H hH) hI4.1 (rD4_Fq.Fs.A hA) (rD4_Fq.Fs.Ad hD) (by rw [rD4_Fq 7 (by decide) (by decide) (by decide) (by decide)]; exact h1) hwI h4 (by rw [rD4_out x2 x4.1 (f := 32) (by decide) (by decide) (by decide) (by decide)]; exact h5) (by have := hI4.2.2; omega)) dX12_does_203 rfl rfl rfl rfl rfl rfl hM.1 ⟨Nat.le_of_ble_eq_true rfl, Nat.le_of_ble_eq_true rfl⟩ (Nat.le_of_ble_eq_true rfl) ?_
                  refine x_wf (fun hw => ?_)
                  refine x_aload_n 207 C dX12_does_206 rfl rfl ?_
                  refine x_iload_n 208 C dX12_does_207 rfl rfl ?_
                  refine x_iload 210 C dX12_does_208 rfl rfl ?_
                  refine x_Vv (As := [_, _]) 213 C vw_X12_365 iw_X12_sets sw_X12_sets (c_X12_sets (R := rSends (rD4 R a) a (rWhere R a) q) hM (sF.H hH) (s.C hI4.1) (sF.A hA) (sF.Ad hD) (sF.S hS) (by rw [sF 7 (by decide) (by decide)]; exact h1) hwI (by have := hI4.2.2; omega) (by omega) (by omega)) dX12_does_210 rfl rfl rfl rfl rfl rfl hM.1 ⟨Nat.le_of_ble_eq_true rfl, Nat.le_of_ble_eq_true rfl⟩ (Nat.le_of_ble_eq_true rfl) ?_
                  refine x_wf (fun hw => ?_)
                  exact x_as (congrArg (wR G) (show rD5 R a q = _ by simp [rD5, bI, h195])) rfl rfl (hJ213 () trivial)
            · skip
              refine x_aload_n 159 C dX12_does_158 rfl rfl ?_
              refine x_mget 162 63 C fr_X12_318 dX12_does_159 rfl rfl hM ?_
              (try simp only [u2r, false_and, and_false, true_and, and_true, ↓reduceIte, Nat.reduceEqDiff])
              rw [e63]
              refine x_if_ne 165 177 C dX12_does_162 rfl (by decide) (by first | exact hw.2.2.1 _ _ | exact hr0 _ _ | assumption | omega | exact ⟨by omega, by omega⟩) (fun h162 => ?_) (fun h162 => ?_)
              · skip
                refine x_iconst 178 C dX12_does_177 rfl ?_
                refine x_goto 182 C dX12_does_178 (by decide) ?_
                exact hJ182 _ (by first | (simp [bI, rUsed, h162]; done) | (simp [bI, rUsed, h162]; omega) | (simp [bI, rUsed, h162] at *; omega))
              · skip
                refine x_aload_n 166 C dX12_does_165 rfl rfl ?_
                refine x_mget 169 64 C fr_X12_358 dX12_does_166 rfl rfl hM ?_
                (try simp only [u2r, false_and, and_false, true_and, and_true, ↓reduceIte, Nat.reduceEqDiff])
                rw [e64]
                refine x_if_eq 172 181 C dX12_does_169 rfl (by decide) (by first | exact hw.2.2.1 _ _ | exact hr0 _ _ | assumption | omega | exact ⟨by omega, by omega⟩) (fun h169 => ?_) (fun h169 => ?_)
                · skip
                  refine x_iconst 182 C dX12_does_181 rfl ?_
                  exact hJ182 _ (by first | (simp [bI, rUsed, h162, h169]; done) | (simp [bI, rUsed, h162, h169]; omega) | (simp [bI, rUsed, h162, h169] at *; omega))
                · skip
                  refine x_iload 174 C dX12_does_172 rfl rfl ?_
                  refine x_if_neB 177 181 C dX12_does_174 rfl (by decide) (fun h174 => ?_) (fun h174 => ?_)
                  · skip
                    refine x_iconst 182 C dX12_does_181 rfl ?_
                    exact hJ182 _ (by first | (simp [bI, rUsed, h162, h169, h174]; done) | (simp [bI, rUsed, h162, h169, h174]; omega) | (simp [bI, rUsed, h162, h169, h174] at *; omega))
                  · skip
                    refine x_iconst 178 C dX12_does_177 rfl ?_
                    refine x_goto 182 C dX12_does_178 (by decide) ?_
                    exact hJ182 _ (by first | (simp [bI, rUsed, h162, h169, h174]; done) | (simp [bI, rUsed, h162, h169, h174]; omega) | (simp [bI, rUsed, h162, h169, h174] at *; omega))
          · skip
            refine x_as (G' := wR G (rD2 R a)) (congrArg (wR G) rfl) rfl rfl ?_
            refine x_aload_n 119 C dX12_does_118 rfl rfl ?_
            refine x_mget 122 62 C fr_X12_276 dX12_does_119 rfl rfl hM ?_
            (try simp only [u2r, false_and, and_false, true_and, and_true, ↓reduceIte, Nat.reduceEqDiff])
            rw [show rD2 R a 62 0 = R 62 0 from rfl]
            refine x_iconst 123 C dX12_does_122 rfl ?_
            refine x_icmp_ne 126 158 C dX12_does_123 rfl (by decide) (by first | exact hw.2.2.1 _ _ | exact hr0 _ _ | assumption | omega | exact ⟨by omega, by omega⟩) (by first | exact hw.2.2.1 _ _ | exact hr0 _ _ | assumption | omega | exact ⟨by omega, by omega⟩) (fun h123 => ?_) (fun h123 => ?_)
            · skip
              exact x_as (congrArg (wR G) (show rD3 R a = _ by simp [rD3, rNeed, bI, h123])) rfl rfl (hJ158 () (by simp [rStops, rNeed, bI, h123]))
            · skip
              refine x_iload 128 C dX12_does_126 rfl rfl ?_
              refine x_if_eqB 131 158 C dX12_does_128 rfl (by decide) (fun h128 => ?_) (fun h128 => ?_)
              · skip
                exact x_as (congrArg (wR G) (show rD3 R a = _ by simp [rD3, rNeed, bI, h123, h128])) rfl rfl (hJ158 () (by simp [rStops, rNeed, bI, h123, h128]))
              · skip
                refine x_aload_n 132 C dX12_does_131 rfl rfl ?_
                refine x_mget 135 66 C fr_X12_306 dX12_does_132 rfl rfl hM ?_
                (try simp only [u2r, false_and, and_false, true_and, and_true, ↓reduceIte, Nat.reduceEqDiff])
                rw [show rD2 R a 66 0 = R 66 0 from rfl]
                refine x_iconst 136 C dX12_does_135 rfl ?_
                refine x_icmp_eq 139 146 C dX12_does_136 rfl (by decide) (by first | exact hw.2.2.1 _ _ | exact hr0 _ _ | assumption | omega | exact ⟨by omega, by omega⟩) (by first | exact hw.2.2.1 _ _ | exact hr0 _ _ | assumption | omega | exact ⟨by omega, by omega⟩) (fun h136 => ?_) (fun h136 => ?_)
                · skip
                  refine x_aload_n 147 C dX12_does_146 rfl rfl ?_
                  refine x_iload_n 148 C dX12_does_147 rfl rfl ?_
                  refine x_iload 150 C dX12_does_148 rfl rfl ?_
                  refine x_Vr (As := [_, _]) 153 C vw_X12_355 iw_X12_preflight sw_X12_preflight (c_X12_preflight (R := rD2 R a) hM (hF2.Fs.H hH) (hF2.Fs.A hA) (hF2.Fs.Ad hD) (hF2.Fs.P hP) (hF2.Q hQ) x2 h1 hwI hT2 (by show 0 ≤ R 53 0 ∧ R 53 0 ≤ 2000000000; omega) (by show 0 ≤ R 54 0 ∧ R 54 0 ≤ 255; omega) h7) dX12_does_150 rfl rfl rfl rfl rfl rfl hM.1 ⟨Nat.le_of_ble_eq_true rfl, Nat.le_of_ble_eq_true rfl⟩ (Nat.le_of_ble_eq_true rfl) ?_
                  refine x_wf (fun hw => ?_)
                  refine x_if_neB 156 158 C dX12_does_153 rfl (by decide) (fun h153 => ?_) (fun h153 => ?_)
                  · skip
                    exact x_as (congrArg (wR G) (show rD3 R a = _ by simp [rD3, rNeed, bI, h123, h128, h136, h153])) rfl rfl (hJ158 () (by simp [rStops, rNeed, bI, h123, h128, h136, h153]))
                  · skip
                    refine x_iconst 157 C dX12_does_156 rfl ?_
                    exact x_iret C dX12_does_157 rfl ⟨vi (by (have es : rStops R a = true := (by rw [rStops, rNeed, decide_eq_true (show R 62 0 = 1 by omega), h128, h153]; first | (rw [decide_eq_true (show R 66 0 = 2 by omega)]; rfl) | (rw [decide_eq_true (show ¬ R 65 0 = 0 by omega)]; simp))); rw [rDoes, if_pos es]), congrArg (wR G) (by first | (rw [rDoesR, hK158, if_neg (by decide)]; done) | (have es : rStops R a = true := (by rw [rStops, rNeed, decide_eq_true (show R 62 0 = 1 by omega), h128, h153]; first | (rw [decide_eq_true (show R 66 0 = 2 by omega)]; rfl) | (rw [decide_eq_true (show ¬ R 65 0 = 0 by omega)]; simp)); have en : rNeed R a = true := (by have := es; rw [rStops] at this; simp only [Bool.and_eq_true] at this; exact this.1); rw [rDoesR, if_pos es, rD3, if_pos en]))⟩
                · skip
                  refine x_aload_n 140 C dX12_does_139 rfl rfl ?_
                  refine x_mget 143 65 C fr_X12_327 dX12_does_140 rfl rfl hM ?_
                  (try simp only [u2r, false_and, and_false, true_and, and_true, ↓reduceIte, Nat.reduceEqDiff])
                  rw [show rD2 R a 65 0 = R 65 0 from rfl]
                  refine x_if_eq 146 158 C dX12_does_143 rfl (by decide) (by first | exact hw.2.2.1 _ _ | exact hr0 _ _ | assumption | omega | exact ⟨by omega, by omega⟩) (fun h143 => ?_) (fun h143 => ?_)
                  · skip
                    exact x_as (congrArg (wR G) (show rD3 R a = _ by simp [rD3, rNeed, bI, h123, h128, h136, h143])) rfl rfl (hJ158 () (by simp [rStops, rNeed, bI, h123, h128, h136, h143]))
                  · skip
                    refine x_aload_n 147 C dX12_does_146 rfl rfl ?_
                    refine x_iload_n 148 C dX12_does_147 rfl rfl ?_
                    refine x_iload 150 C dX12_does_148 rfl rfl ?_
                    refine x_Vr (As := [_, _]) 153 C vw_X12_355 iw_X12_preflight sw_X12_preflight (c_X12_preflight (R := rD2 R a) hM (hF2.Fs.H hH) (hF2.Fs.A hA) (hF2.Fs.Ad hD) (hF2.Fs.P hP) (hF2.Q hQ) x2 h1 hwI hT2 (by show 0 ≤ R 53 0 ∧ R 53 0 ≤ 2000000000; omega) (by show 0 ≤ R 54 0 ∧ R 54 0 ≤ 255; omega) h7) dX12_does_150 rfl rfl rfl rfl rfl rfl hM.1 ⟨Nat.le_of_ble_eq_true rfl, Nat.le_of_ble_eq_true rfl⟩ (Nat.le_of_ble_eq_true rfl) ?_
                    refine x_wf (fun hw => ?_)
                    refine x_if_neB 156 158 C dX12_does_153 rfl (by decide) (fun h153 => ?_) (fun h153 => ?_)
                    · skip
                      exact x_as (congrArg (wR G) (show rD3 R a = _ by simp [rD3, rNeed, bI, h123, h128, h136, h143, h153])) rfl rfl (hJ158 () (by simp [rStops, rNeed, bI, h123, h128, h136, h143, h153]))
                    · skip
                      refine x_iconst 157 C dX12_does_156 rfl ?_
                      exact x_iret C dX12_does_157 rfl ⟨vi (by (have es : rStops R a = true := (by rw [rStops, rNeed, decide_eq_true (show R 62 0 = 1 by omega), h128, h153]; first | (rw [decide_eq_true (show R 66 0 = 2 by omega)]; rfl) | (rw [decide_eq_true (show ¬ R 65 0 = 0 by omega)]; simp))); rw [rDoes, if_pos es]), congrArg (wR G) (by first | (rw [rDoesR, hK158, if_neg (by decide)]; done) | (have es : rStops R a = true := (by rw [rStops, rNeed, decide_eq_true (show R 62 0 = 1 by omega), h128, h153]; first | (rw [decide_eq_true (show R 66 0 = 2 by omega)]; rfl) | (rw [decide_eq_true (show ¬ R 65 0 = 0 by omega)]; simp)); have en : rNeed R a = true := (by have := es; rw [rStops] at this; simp only [Bool.and_eq_true] at this; exact this.1); rw [rDoesR, if_pos es, rD3, if_pos en]))⟩
        · skip
          refine x_aload_n 99 C dX12_does_98 rfl rfl ?_
          refine x_mget 102 69 C fr_X12_352 dX12_does_99 rfl rfl hM ?_
          (try simp only [u2r, false_and, and_false, true_and, and_true, ↓reduceIte, Nat.reduceEqDiff])
          refine x_if_ne 105 110 C dX12_does_102 rfl (by decide) (by first | exact hw.2.2.1 _ _ | exact hr0 _ _ | assumption | omega | exact ⟨by omega, by omega⟩) (fun h102 => ?_) (fun h102 => ?_)
          · skip
            refine x_iconst 111 C dX12_does_110 rfl ?_
            refine x_goto 115 C dX12_does_111 (by decide) ?_
            exact hJ115 _ (by first | (simp [bI, rWas, h102]; done) | (simp [bI, rWas, h102]; omega) | (simp [bI, rWas, h102] at *; omega))
          · skip
            refine x_iload 107 C dX12_does_105 rfl rfl ?_
            refine x_if_eqB 110 114 C dX12_does_107 rfl (by decide) (fun h107 => ?_) (fun h107 => ?_)
            · skip
              refine x_iconst 115 C dX12_does_114 rfl ?_
              exact hJ115 _ (by first | (simp [bI, rWas, h102, h107]; done) | (simp [bI, rWas, h102, h107]; omega) | (simp [bI, rWas, h102, h107] at *; omega))
            · skip
              refine x_iconst 111 C dX12_does_110 rfl ?_
              refine x_goto 115 C dX12_does_111 (by decide) ?_
              exact hJ115 _ (by first | (simp [bI, rWas, h102, h107]; done) | (simp [bI, rWas, h102, h107]; omega) | (simp [bI, rWas, h102, h107] at *; omega))
      · skip
        refine x_aload_n 70 C dX12_does_69 rfl rfl ?_
        refine x_mget 73 68 C fr_X12_273 dX12_does_70 rfl rfl hM ?_
        refine x_if_ne 76 89 C dX12_does_73 rfl (by decide) (by first | exact hw.2.2.1 _ _ | exact hr0 _ _ | assumption | omega | exact ⟨by omega, by omega⟩) (fun h73 => ?_) (fun h73 => ?_)
        · skip
          refine x_iconst 90 C dX12_does_89 rfl ?_
          refine x_goto 94 C dX12_does_90 (by decide) ?_
          exact hJ94 _ (by first | (simp [bI, rAfar, h73]; done) | (simp [bI, rAfar, h73]; omega) | (simp [bI, rAfar, h73] at *; omega))
        · skip
          refine x_aload_n 77 C dX12_does_76 rfl rfl ?_
          refine x_iload_n 78 C dX12_does_77 rfl rfl ?_
          refine x_Vr (As := [_]) 81 C vw_X12_238 iw_X12_place sw_X12_place (c_X12_place (R := R) hM hH hA hD h1) dX12_does_78 rfl rfl rfl rfl rfl rfl hM.1 ⟨Nat.le_of_ble_eq_true rfl, Nat.le_of_ble_eq_true rfl⟩ (Nat.le_of_ble_eq_true rfl) ?_
          refine x_aload_n 82 C dX12_does_81 rfl rfl ?_
          refine x_iload_n 83 C dX12_does_82 rfl rfl ?_
          refine x_Vr (As := [_]) 86 C vw_X12_238 iw_X12_place sw_X12_place (c_X12_place (R := R) hM hH hA hD hfr) dX12_does_83 rfl rfl rfl rfl rfl rfl hM.1 ⟨Nat.le_of_ble_eq_true rfl, Nat.le_of_ble_eq_true rfl⟩ (Nat.le_of_ble_eq_true rfl) ?_
          refine x_icmp_eq 89 93 C dX12_does_86 rfl (by decide) (by first | exact hw.2.2.1 _ _ | exact hr0 _ _ | assumption | omega | exact ⟨by omega, by omega⟩) (by first | exact hw.2.2.1 _ _ | exact hr0 _ _ | assumption | omega | exact ⟨by omega, by omega⟩) (fun h86 => ?_) (fun h86 => ?_)
          · skip
            refine x_iconst 94 C dX12_does_93 rfl ?_
            exact hJ94 _ (by first | (simp [bI, rAfar, h73, h86]; done) | (simp [bI, rAfar, h73, h86]; omega) | (simp [bI, rAfar, h73, h86] at *; omega))
          · skip
            refine x_iconst 90 C dX12_does_89 rfl ?_
            refine x_goto 94 C dX12_does_90 (by decide) ?_
            exact hJ94 _ (by first | (simp [bI, rAfar, h73, h86]; done) | (simp [bI, rAfar, h73, h86]; omega) | (simp [bI, rAfar, h73, h86] at *; omega))
    · skip
      refine x_aload_n 46 C dX12_does_45 rfl rfl ?_
      refine x_iload_n 47 C dX12_does_46 rfl rfl ?_
      refine x_iload_n 48 C dX12_does_47 rfl rfl ?_
      refine x_Vr (As := [_, _]) 51 C vw_X12_315 iw_X12_isSame sw_X12_isSame (c_X12_isSame hM hA hD h1 hfr) dX12_does_48 rfl rfl rfl rfl rfl rfl hM.1 ⟨Nat.le_of_ble_eq_true rfl, Nat.le_of_ble_eq_true rfl⟩ (Nat.le_of_ble_eq_true rfl) ?_
      refine x_if_eqB 54 61 C dX12_does_51 rfl (by decide) (fun h51 => ?_) (fun h51 => ?_)
      · skip
        refine x_iconst 62 C dX12_does_61 rfl ?_
        refine x_goto 66 C dX12_does_62 (by decide) ?_
        exact hJ66 _ (by first | (simp [bI, rCross, h51]; done) | (simp [bI, rCross, h51]; omega) | (simp [bI, rCross, h51] at *; omega))
      · skip
        refine x_aload_n 55 C dX12_does_54 rfl rfl ?_
        refine x_mget 58 67 C fr_X12_321 dX12_does_55 rfl rfl hM ?_
        refine x_if_eq 61 65 C dX12_does_58 rfl (by decide) (by first | exact hw.2.2.1 _ _ | exact hr0 _ _ | assumption | omega | exact ⟨by omega, by omega⟩) (fun h58 => ?_) (fun h58 => ?_)
        · skip
          refine x_iconst 66 C dX12_does_65 rfl ?_
          exact hJ66 _ (by first | (simp [bI, rCross, h51, h58]; done) | (simp [bI, rCross, h51, h58]; omega) | (simp [bI, rCross, h51, h58] at *; omega))
        · skip
          refine x_iconst 62 C dX12_does_61 rfl ?_
          refine x_goto 66 C dX12_does_62 (by decide) ?_
          exact hJ66 _ (by first | (simp [bI, rCross, h51, h58]; done) | (simp [bI, rCross, h51, h58]; omega) | (simp [bI, rCross, h51, h58] at *; omega))
  · skip
    refine x_aload_n 11 C dX12_does_10 rfl rfl ?_
    refine x_mget 14 62 C fr_X12_276 dX12_does_11 rfl rfl hM ?_
    refine x_iconst 15 C dX12_does_14 rfl ?_
    refine x_icmp_ne 18 26 C dX12_does_15 rfl (by decide) (by first | exact hw.2.2.1 _ _ | exact hr0 _ _ | assumption | omega | exact ⟨by omega, by omega⟩) (by first | exact hw.2.2.1 _ _ | exact hr0 _ _ | assumption | omega | exact ⟨by omega, by omega⟩) (fun h15 => ?_) (fun h15 => ?_)
    · skip
      refine x_aload_n 27 C dX12_does_26 rfl rfl ?_
      refine x_aload_n 28 C dX12_does_27 rfl rfl ?_
      refine x_mrow 31 25 C fr_X12_68 dX12_does_28 rfl rfl hM ?_
      refine x_aload_n 32 C dX12_does_31 rfl rfl ?_
      refine x_aload_n 33 C dX12_does_32 rfl rfl ?_
      refine x_mget 36 61 C fr_X12_312 dX12_does_33 rfl rfl hM ?_
      refine x_Vr (As := [_]) 39 C vw_X12_349 iw_X12_top sw_X12_top (c_X12_top hM hP hq1) dX12_does_36 rfl rfl rfl rfl rfl rfl hM.1 ⟨Nat.le_of_ble_eq_true rfl, Nat.le_of_ble_eq_true rfl⟩ (Nat.le_of_ble_eq_true rfl) ?_
      refine x_mldI 40 25 C dX12_does_39 rfl rfl hM (by first | exact hIx | exact ⟨by omega, Int.lt_of_lt_of_le (b := 8) (by omega) (by decide)⟩) ?_
      refine x_Vr (As := [_]) 43 C vw_X12_238 iw_X12_place sw_X12_place (c_X12_place hM hH hA hD hpt) dX12_does_40 rfl rfl rfl rfl rfl rfl hM.1 ⟨Nat.le_of_ble_eq_true rfl, Nat.le_of_ble_eq_true rfl⟩ (Nat.le_of_ble_eq_true rfl) ?_
      exact hJ43 _ (by first | (simp [bI, rWhere, h15]; done) | (simp [bI, rWhere, h15]; omega) | (simp [bI, rWhere, h15] at *; omega))
    · skip
      refine x_aload_n 19 C dX12_does_18 rfl rfl ?_
      refine x_iload_n 20 C dX12_does_19 rfl rfl ?_
      refine x_Vr (As := [_]) 23 C vw_X12_238 iw_X12_place sw_X12_place (c_X12_place hM hH hA hD h1) dX12_does_20 rfl rfl rfl rfl rfl rfl hM.1 ⟨Nat.le_of_ble_eq_true rfl, Nat.le_of_ble_eq_true rfl⟩ (Nat.le_of_ble_eq_true rfl) ?_
      refine x_goto 43 C dX12_does_23 (by decide) ?_
      exact hJ43 _ (by first | (simp [bI, rWhere, h15]; done) | (simp [bI, rWhere, h15]; omega) | (simp [bI, rWhere, h15] at *; omega))
