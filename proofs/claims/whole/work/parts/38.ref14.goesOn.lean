/-! rows laid by program (wip/tools/gen.py) -/
set_option maxHeartbeats 1000000 in
set_option maxRecDepth 100000 in
theorem c_X12_goesOn {E : EV} {l : Launch} {G : GT} {R : RT} {o : Nat} {a : Int} (hM : RM G o) (hH : RH R) (hA : RA R) (hD : RAd R) (hP : RP R) (hQ : RQ R) (hS : RS R) (hX : RX R (6 * R 28 0)) (h28 : 0 ≤ R 28 0 ∧ R 28 0 < 40) (h30 : R 30 (R 28 0).toNat = 0) (h17 : ∀ j : Nat, (j : Int) < R 7 0 → 0 ≤ R 17 j ∧ R 17 j ≤ 1000) (h1 : 0 ≤ a ∧ a < R 7 0) : MT E l yX12_goesOn cX12_goesOn 9 (some .int) 6 149 0 0 [.ref o, .int (i32 a)] (wR G R) (pD (some (.int (i32 (rGoes2 R a)))) (wR G (rGoesR R a))) := by
  refine mt_of (own := RX12) (L := [some (.ref o), some (.int (i32 a)), none, none, none, none, none, none, none]) (by decide +kernel) rfl (Nat.le_of_ble_eq_true rfl) (List.forall_mem_cons.mpr ⟨rfl, (List.forall_mem_cons.mpr ⟨rfl, (fun _ h => absurd h List.not_mem_nil)⟩)⟩) rfl ?_
  intro p e s m args below meth c C hin
  refine x_wf (fun hw => ?_)
  have hr0 : ∀ k j, InR (R k j) := hw.2.2.1
  have hz0 : ∀ k j, mZ k = true → R k j = 0 ∨ R k j = 1 := hw.2.2.2.2.1
  have hh := hA.1
  have hh2 := hA.2
  have hp1 := hP.1
  refine x_iload_n 1 C dX12_goesOn_0 rfl rfl ?_
  refine x_istore_n 2 C dX12_goesOn_1 rfl rfl rfl ?_
  refine x_iconst 3 C dX12_goesOn_2 rfl ?_
  refine x_istore_n 4 C dX12_goesOn_3 rfl rfl rfl ?_
  refine x_loop (α := Int × Int × RT × Option Value × Option Value × Option Value × Option Value × Option Value) (fun ⟨k, b, S, x4, x5, x6, x7, x8⟩ => (6 - k).toNat) (fun ⟨k, b, S, x4, x5, x6, x7, x8⟩ => (0 ≤ k ∧ k ≤ 5) ∧ rGI R S k b ∧ rGoF (6 - k).toNat k b S = rGoF 6 0 a R) (fun ⟨k, b, S, x4, x5, x6, x7, x8⟩ => wR G S) (fun ⟨k, b, S, x4, x5, x6, x7, x8⟩ => [some (.ref o), some (.int (i32 a)), some (.int (i32 b)), some (.int (i32 k)), x4, x5, x6, x7, x8]) (fun _ => []) (0, a, R, none, none, none, none, none) ⟨⟨by decide, by decide⟩, ⟨Fs.refl, rfl, hQ, by (try dsimp only); rw [Int.add_zero]; exact hX, h30, h1⟩, rfl⟩ rfl rfl rfl ?_
  intro aa hI ih
  obtain ⟨k, b, S, x4, x5, x6, x7, x8⟩ := aa
  (try dsimp only at hI); (try dsimp only at ih); (try dsimp only)
  obtain ⟨i1, i2, i3⟩ := hI
  have i5 := i2
  obtain ⟨g1, g2, g3, g4, g5, g6⟩ := i5
  have e7 : S 7 0 = R 7 0 := congrFun (g1 7 (by decide) (by decide)) 0
  have hmx := rMix_in (a := b) (g1.A hA) (by rw [e7]; exact g6)
  have i4 := i3
  rw [show (6 - k).toNat = (5 - k).toNat + 1 by omega, rGoF] at i4
  have hit : 0 ≤ (if rMix S b = -1 then b else rMix S b) ∧ (if rMix S b = -1 then b else rMix S b) < S 7 0 := by split <;> omega
  refine x_iload_n 5 C dX12_goesOn_4 rfl rfl ?_
  refine x_bipush 7 C dX12_goesOn_5 rfl (by decide) ?_
  refine x_icmp_ge 10 215 C dX12_goesOn_7 rfl (by decide) (by first | exact hho | exact hr2 _ _ | exact hw.2.2.1 _ _ | exact hr0 _ _ | assumption | omega | exact ⟨by omega, by omega⟩) (by first | exact hho | exact hr2 _ _ | exact hw.2.2.1 _ _ | exact hr0 _ _ | assumption | omega | exact ⟨by omega, by omega⟩) (fun h7 => ?_) (fun h7 => ?_)
  · skip
    exfalso; omega
  · skip
    refine x_bipush 12 C dX12_goesOn_10 rfl (by decide) ?_
    refine x_aload_n 13 C dX12_goesOn_12 rfl rfl ?_
    refine x_mget 16 28 C fr_X12_346 dX12_goesOn_13 rfl rfl hM ?_
    (try simp only [u2r, false_and, and_false, true_and, and_true, ↓reduceIte, Nat.reduceEqDiff])
    refine x_imul 17 C dX12_goesOn_16 rfl ?_
    refine x_iload_n 18 C dX12_goesOn_17 rfl rfl ?_
    refine x_iadd 19 C dX12_goesOn_18 rfl ?_
    refine x_istore 21 C dX12_goesOn_19 rfl rfl rfl ?_
    refine x_aload_n 22 C dX12_goesOn_21 rfl rfl ?_
    refine x_iload_n 23 C dX12_goesOn_22 rfl rfl ?_
    refine x_Vr (As := [_]) 26 C vw_X12_369 iw_X12_mixes sw_X12_mixes (c_X12_mixes (R := S) hM (g1.A hA) (g1.Ad hD) (g1.P hP) g3 (by rw [e7]; exact g6)) dX12_goesOn_23 rfl rfl rfl rfl rfl rfl hM.1 ⟨Nat.le_of_ble_eq_true rfl, Nat.le_of_ble_eq_true rfl⟩ (Nat.le_of_ble_eq_true rfl) ?_
    refine x_istore 28 C dX12_goesOn_26 rfl rfl rfl ?_
    refine x_joinv 40 (fun vJ => vJ = if rMix S b = -1 then b else rMix S b) ?_ (fun hJ40 => ?_)
    · intro vJ hJ
      subst hJ
      refine x_istore_n 41 C dX12_goesOn_40 rfl rfl rfl ?_
      refine x_aload_n 42 C dX12_goesOn_41 rfl rfl ?_
      refine x_iload_n 43 C dX12_goesOn_42 rfl rfl ?_
      refine x_iload 45 C dX12_goesOn_43 rfl rfl ?_
      refine x_Vv (As := [_, _]) 48 C vw_X12_372 iw_X12_records sw_X12_records (c_X12_records (R := S) hM (g1.A hA) (g1.Ad hD) (g1.P hP) g3 hit ⟨by omega, by omega⟩ (by omega) (by rw [g2, g5]; omega)) dX12_goesOn_45 rfl rfl rfl rfl rfl rfl hM.1 ⟨Nat.le_of_ble_eq_true rfl, Nat.le_of_ble_eq_true rfl⟩ (Nat.le_of_ble_eq_true rfl) ?_
      refine x_wf (fun hw => ?_)
      refine x_iload 50 C dX12_goesOn_48 rfl rfl ?_
      refine x_iconst 51 C dX12_goesOn_50 rfl ?_
      refine x_icmp_ne 54 56 C dX12_goesOn_51 rfl (by decide) (by first | exact hho | exact hr2 _ _ | exact hw.2.2.1 _ _ | exact hr0 _ _ | assumption | omega | exact ⟨by omega, by omega⟩) (by first | exact hho | exact hr2 _ _ | exact hw.2.2.1 _ _ | exact hr0 _ _ | assumption | omega | exact ⟨by omega, by omega⟩) (fun h51 => ?_) (fun h51 => ?_)
      · skip
        rw [if_neg h51]
        refine x_as (G' := wR G (rG1 S b k)) (congrArg (wR G) rfl) rfl rfl ?_
        obtain ⟨p1, p2, p3, p4, p5⟩ : Fs R (rG1 S b k) ∧ rG1 S b k 28 0 = R 28 0 ∧ RQ (rG1 S b k) ∧ RX (rG1 S b k) (6 * R 28 0 + k) ∧ rG1 S b k 30 (R 28 0).toNat = k + 1 := rG1_I i2
        have h32 : rG1 S b k 32 (6 * S 28 0 + k).toNat = 0 := rRec_32
        have hb7 : 0 ≤ rMix S b ∧ rMix S b < rG1 S b k 7 0 := by (rw [p1 7 (by decide) (by decide)]; omega)
        have hdi : Fq (rG1 S b k) (rG2 S b k) ∧ RX (rG2 S b k) (6 * R 28 0 + k + 1) := rDoes_I (p1.H hH) (p1.A hA) (p1.Ad hD) (p1.S hS) p4 hb7 h32
        have f1 : Fs R (rG2 S b k) := p1.trans hdi.1.Fs
        have hdn := rDoes_in (R := rG1 S b k) (a := rMix S b)
        refine x_aload_n 57 C dX12_goesOn_56 rfl rfl ?_
        refine x_iload_n 58 C dX12_goesOn_57 rfl rfl ?_
        refine x_iload 60 C dX12_goesOn_58 rfl rfl ?_
        refine x_Vr (As := [_, _]) 63 C vw_X12_375 iw_X12_does sw_X12_does (c_X12_does (R := rG1 S b k) (n := 6 * R 28 0 + k) hM (p1.H hH) (p1.A hA) (p1.Ad hD) (p1.P hP) p3 (p1.S hS) p4 ⟨by omega, by omega⟩ hb7 ⟨by omega, by omega⟩ h32 (by rw [p1 17 (by decide) (by decide)]; exact h17 _ (by omega))) dX12_goesOn_60 rfl rfl rfl rfl rfl rfl hM.1 ⟨Nat.le_of_ble_eq_true rfl, Nat.le_of_ble_eq_true rfl⟩ (Nat.le_of_ble_eq_true rfl) ?_
        refine x_wf (fun hw => ?_)
        rw [show rDoesR (rG1 S b k) (rMix S b) (6 * S 28 0 + k) = rG2 S b k from rfl]
        refine x_istore 65 C dX12_goesOn_63 rfl rfl rfl ?_
        refine x_iload 67 C dX12_goesOn_65 rfl rfl ?_
        refine x_iconst 68 C dX12_goesOn_67 rfl ?_
        refine x_icmp_eq 71 74 C dX12_goesOn_68 rfl (by decide) (by first | exact hho | exact hr2 _ _ | exact hw.2.2.1 _ _ | exact hr0 _ _ | assumption | omega | exact ⟨by omega, by omega⟩) (by first | exact hho | exact hr2 _ _ | exact hw.2.2.1 _ _ | exact hr0 _ _ | assumption | omega | exact ⟨by omega, by omega⟩) (fun h68 => ?_) (fun h68 => ?_)
        · skip
          refine x_iload_n 75 C dX12_goesOn_74 rfl rfl ?_
          refine x_iconst 76 C dX12_goesOn_75 rfl ?_
          refine x_icmp_ne 79 81 C dX12_goesOn_76 rfl (by decide) (by first | exact hho | exact hr2 _ _ | exact hw.2.2.1 _ _ | exact hr0 _ _ | assumption | omega | exact ⟨by omega, by omega⟩) (by first | exact hho | exact hr2 _ _ | exact hw.2.2.1 _ _ | exact hr0 _ _ | assumption | omega | exact ⟨by omega, by omega⟩) (fun h76 => ?_) (fun h76 => ?_)
          · skip
            have hnx : 0 ≤ rG2 S b k 12 (rMix S b).toNat ∧ rG2 S b k 12 (rMix S b).toNat < R 7 0 := by (have z := rDoes_12 (show rDoes (rG1 S b k) (rMix S b) = -1 by omega); rw [p1 12 (by decide) (by decide)] at z; rw [f1 12 (by decide) (by decide)]; have := hD (rMix S b).toNat (by omega); omega)
            refine x_wf (fun hw => ?_)
            have hr2 : ∀ k2 j, InR (rG2 S b k k2 j) := hw.2.2.1
            have hz2 : ∀ k2 j, mZ k2 = true → rG2 S b k k2 j = 0 ∨ rG2 S b k k2 j = 1 := hw.2.2.2.2.1
            have hho := rHow_in (a := rMix S b) (hr2 66 0)
            have f2 : Fs R (u2 (rG2 S b k) 66 0 (rHow (rG2 S b k) (rMix S b))) := f1.u (Or.inr (by decide))
            have hq2 := (hdi.1.Q p3)
            have hfr := rFrom_in (f1.P hP) hq2
            have e7b : rG2 S b k 7 0 = R 7 0 := congrFun (f1 7 (by decide) (by decide)) 0
            have e24 : rG2 S b k 24 0 = R 24 0 := congrFun (f1 24 (by decide) (by decide)) 0
            have hq3 := hq2.1
            have htn : rTnt (rG2 S b k) (rMix S b) = 0 ∨ rTnt (rG2 S b k) (rMix S b) = 1 := by (unfold rTnt; split <;> omega)
            refine x_aload_n 82 C dX12_goesOn_81 rfl rfl ?_
            refine x_mrow 85 13 C fr_X12_35 dX12_goesOn_82 rfl rfl hM ?_
            refine x_iload_n 86 C dX12_goesOn_85 rfl rfl ?_
            refine x_mldI 87 13 C dX12_goesOn_86 rfl rfl hM (by first | exact hIx | exact ⟨by omega, Int.lt_of_lt_of_le (b := 24) (by omega) (by decide)⟩) ?_
            (try simp only [u2r, false_and, and_false, true_and, and_true, ↓reduceIte, Nat.reduceEqDiff])
            refine x_istore 89 C dX12_goesOn_87 rfl rfl rfl ?_
            refine x_aload_n 90 C dX12_goesOn_89 rfl rfl ?_
            refine x_joinv 125 (fun vJ => vJ = rHow (rG2 S b k) (rMix S b)) ?_ (fun hJ125 => ?_)
            · intro vJ hJ
              subst hJ
              refine x_mput 128 66 C fw_X12_306 dX12_goesOn_125 rfl rfl rfl hM (by first | exact hho | exact hr2 _ _ | exact hw.2.2.1 _ _ | exact hr0 _ _ | assumption | omega | exact ⟨by omega, by omega⟩) (fun z => absurd z (by decide)) ?_
              refine x_wf (fun hw => ?_)
              refine x_joinv 157 (fun vJ => vJ = bI (rCross (rG2 S b k) (rMix S b))) ?_ (fun hJ157 => ?_)
              · intro vJ hJ
                subst hJ
                refine x_istore 159 C dX12_goesOn_157 rfl rfl rfl ?_
                refine x_aload_n 160 C dX12_goesOn_159 rfl rfl ?_
                refine x_joinv 199 (fun vJ => vJ = rTnt (rG2 S b k) (rMix S b)) ?_ (fun hJ199 => ?_)
                · intro vJ hJ
                  subst hJ
                  refine x_mput 202 67 C fw_X12_321 dX12_goesOn_199 rfl rfl rfl hM (by first | exact hho | exact hr2 _ _ | exact hw.2.2.1 _ _ | exact hr0 _ _ | assumption | omega | exact ⟨by omega, by omega⟩) (fun _ => by first | assumption | omega | exact bI_01 _ | exact hw.2.2.2.2.1 _ _ rfl | exact hz0 _ _ rfl) ?_
                  refine x_wf (fun hw => ?_)
                  refine x_aload_n 203 C dX12_goesOn_202 rfl rfl ?_
                  refine x_mrow 206 12 C fr_X12_32 dX12_goesOn_203 rfl rfl hM ?_
                  refine x_iload_n 207 C dX12_goesOn_206 rfl rfl ?_
                  refine x_mldI 208 12 C dX12_goesOn_207 rfl rfl hM (by first | exact hIx | exact ⟨by omega, Int.lt_of_lt_of_le (b := 24) (by omega) (by decide)⟩) ?_
                  (try simp only [u2r, false_and, and_false, true_and, and_true, ↓reduceIte, Nat.reduceEqDiff])
                  refine x_istore_n 209 C dX12_goesOn_208 rfl rfl rfl ?_
                  refine x_iinc 212 C dX12_goesOn_209 rfl rfl rfl rfl ?_
                  refine x_goto 4 C dX12_goesOn_212 (by decide) ?_
                  exact ih (k + 1, rG2 S b k 12 (rMix S b).toNat, rNxt (rG2 S b k) (rMix S b), _, _, _, _, _) ⟨by (try dsimp only); omega, rNxt_I f1 (by rw [hdi.1 28 (by decide) (by decide) (by decide) (by decide)]; exact p2) (hdi.1.Q p3) (by (try dsimp only); rw [← Int.add_assoc]; exact hdi.2) (by rw [hdi.1 30 (by decide) (by decide) (by decide) (by decide)]; exact p5) hnx, by (try dsimp only); rw [← i4, if_neg h51, if_neg (fun z => z (by omega)), if_neg (by omega), show (6 - (k + 1)).toNat = (5 - k).toNat by omega]⟩ (by (try dsimp only); omega)
                · skip
                  refine x_aload_n 161 C dX12_goesOn_160 rfl rfl ?_
                  refine x_mget 164 67 C fr_X12_321 dX12_goesOn_161 rfl rfl hM ?_
                  (try simp only [u2r, false_and, and_false, true_and, and_true, ↓reduceIte, Nat.reduceEqDiff])
                  refine x_if_ne 167 194 C dX12_goesOn_164 rfl (by decide) (by first | exact hho | exact hr2 _ _ | exact hw.2.2.1 _ _ | exact hr0 _ _ | assumption | omega | exact ⟨by omega, by omega⟩) (fun h164 => ?_) (fun h164 => ?_)
                  · skip
                    refine x_iconst 195 C dX12_goesOn_194 rfl ?_
                    refine x_goto 199 C dX12_goesOn_195 (by decide) ?_
                    exact hJ199 _ (by first | (simp [bI, rTnt, h164]; done) | (simp [bI, rTnt, h164]; omega) | (simp [bI, rTnt, h164] at *; omega))
                  · skip
                    refine x_aload_n 168 C dX12_goesOn_167 rfl rfl ?_
                    refine x_mget 171 62 C fr_X12_276 dX12_goesOn_168 rfl rfl hM ?_
                    (try simp only [u2r, false_and, and_false, true_and, and_true, ↓reduceIte, Nat.reduceEqDiff])
                    refine x_iconst 172 C dX12_goesOn_171 rfl ?_
                    refine x_icmp_ne 175 198 C dX12_goesOn_172 rfl (by decide) (by first | exact hho | exact hr2 _ _ | exact hw.2.2.1 _ _ | exact hr0 _ _ | assumption | omega | exact ⟨by omega, by omega⟩) (by first | exact hho | exact hr2 _ _ | exact hw.2.2.1 _ _ | exact hr0 _ _ | assumption | omega | exact ⟨by omega, by omega⟩) (fun h172 => ?_) (fun h172 => ?_)
                    · skip
                      refine x_iconst 199 C dX12_goesOn_198 rfl ?_
                      exact hJ199 _ (by first | (simp [bI, rTnt, h164, h172]; done) | (simp [bI, rTnt, h164, h172]; omega) | (simp [bI, rTnt, h164, h172] at *; omega))
                    · skip
                      refine x_iload 177 C dX12_goesOn_175 rfl rfl ?_
                      refine x_if_eqB 180 198 C dX12_goesOn_177 rfl (by decide) (fun h177 => ?_) (fun h177 => ?_)
                      · skip
                        refine x_iconst 199 C dX12_goesOn_198 rfl ?_
                        exact hJ199 _ (by first | (simp [bI, rTnt, h164, h172, h177]; done) | (simp [bI, rTnt, h164, h172, h177]; omega) | (simp [bI, rTnt, h164, h172, h177] at *; omega))
                      · skip
                        refine x_aload_n 181 C dX12_goesOn_180 rfl rfl ?_
                        refine x_aload_n 182 C dX12_goesOn_181 rfl rfl ?_
                        refine x_mrow 185 12 C fr_X12_32 dX12_goesOn_182 rfl rfl hM ?_
                        refine x_iload_n 186 C dX12_goesOn_185 rfl rfl ?_
                        refine x_mldI 187 12 C dX12_goesOn_186 rfl rfl hM (by first | exact hIx | exact ⟨by omega, Int.lt_of_lt_of_le (b := 24) (by omega) (by decide)⟩) ?_
                        (try simp only [u2r, false_and, and_false, true_and, and_true, ↓reduceIte, Nat.reduceEqDiff])
                        refine x_iload_n 188 C dX12_goesOn_187 rfl rfl ?_
                        refine x_Vr (As := [_, _]) 191 C vw_X12_315 iw_X12_isSame sw_X12_isSame (c_X12_isSame (R := (u2 (rG2 S b k) 66 0 (rHow (rG2 S b k) (rMix S b)))) hM (f2.A hA) (f2.Ad hD) (by rw [f2 7 (by decide) (by decide)]; omega) (by rw [f2 7 (by decide) (by decide)]; omega)) dX12_goesOn_188 rfl rfl rfl rfl rfl rfl hM.1 ⟨Nat.le_of_ble_eq_true rfl, Nat.le_of_ble_eq_true rfl⟩ (Nat.le_of_ble_eq_true rfl) ?_
                        rw [(Fs.refl.u (Or.inr (by decide)) : Fs (rG2 S b k) (u2 (rG2 S b k) 66 0 (rHow (rG2 S b k) (rMix S b)))).same]
                        refine x_if_neB 194 198 C dX12_goesOn_191 rfl (by decide) (fun h191 => ?_) (fun h191 => ?_)
                        · skip
                          refine x_iconst 199 C dX12_goesOn_198 rfl ?_
                          exact hJ199 _ (by first | (simp [bI, rTnt, h164, h172, h177, h191]; done) | (simp [bI, rTnt, h164, h172, h177, h191]; omega) | (simp [bI, rTnt, h164, h172, h177, h191] at *; omega))
                        · skip
                          refine x_iconst 195 C dX12_goesOn_194 rfl ?_
                          refine x_goto 199 C dX12_goesOn_195 (by decide) ?_
                          exact hJ199 _ (by first | (simp [bI, rTnt, h164, h172, h177, h191]; done) | (simp [bI, rTnt, h164, h172, h177, h191]; omega) | (simp [bI, rTnt, h164, h172, h177, h191] at *; omega))
              · skip
                refine x_aload_n 129 C dX12_goesOn_128 rfl rfl ?_
                refine x_iload_n 130 C dX12_goesOn_129 rfl rfl ?_
                refine x_aload_n 131 C dX12_goesOn_130 rfl rfl ?_
                refine x_mrow 134 25 C fr_X12_68 dX12_goesOn_131 rfl rfl hM ?_
                refine x_aload_n 135 C dX12_goesOn_134 rfl rfl ?_
                refine x_mget 138 61 C fr_X12_312 dX12_goesOn_135 rfl rfl hM ?_
                (try simp only [u2r, false_and, and_false, true_and, and_true, ↓reduceIte, Nat.reduceEqDiff])
                refine x_mldI 139 25 C dX12_goesOn_138 rfl rfl hM (by first | exact hIx | exact ⟨by omega, Int.lt_of_lt_of_le (b := 8) (by omega) (by decide)⟩) ?_
                (try simp only [u2r, false_and, and_false, true_and, and_true, ↓reduceIte, Nat.reduceEqDiff])
                refine x_Vr (As := [_, _]) 142 C vw_X12_315 iw_X12_isSame sw_X12_isSame (c_X12_isSame (R := (u2 (rG2 S b k) 66 0 (rHow (rG2 S b k) (rMix S b)))) hM (f2.A hA) (f2.Ad hD) (by rw [f2 7 (by decide) (by decide)]; omega) (by show 0 ≤ rFrom (rG2 S b k) ∧ rFrom (rG2 S b k) < rG2 S b k 7 0; exact hfr)) dX12_goesOn_139 rfl rfl rfl rfl rfl rfl hM.1 ⟨Nat.le_of_ble_eq_true rfl, Nat.le_of_ble_eq_true rfl⟩ (Nat.le_of_ble_eq_true rfl) ?_
                rw [(Fs.refl.u (Or.inr (by decide)) : Fs (rG2 S b k) (u2 (rG2 S b k) 66 0 (rHow (rG2 S b k) (rMix S b)))).same]
                refine x_if_eqB 145 152 C dX12_goesOn_142 rfl (by decide) (fun h142 => ?_) (fun h142 => ?_)
                · skip
                  refine x_iconst 153 C dX12_goesOn_152 rfl ?_
                  refine x_goto 157 C dX12_goesOn_153 (by decide) ?_
                  exact hJ157 _ (by first | (simp [bI, rCross, rFrom, h142]; done) | (simp [bI, rCross, rFrom, h142]; omega) | (simp [bI, rCross, rFrom, h142] at *; omega))
                · skip
                  refine x_aload_n 146 C dX12_goesOn_145 rfl rfl ?_
                  refine x_mget 149 67 C fr_X12_321 dX12_goesOn_146 rfl rfl hM ?_
                  (try simp only [u2r, false_and, and_false, true_and, and_true, ↓reduceIte, Nat.reduceEqDiff])
                  refine x_if_eq 152 156 C dX12_goesOn_149 rfl (by decide) (by first | exact hho | exact hr2 _ _ | exact hw.2.2.1 _ _ | exact hr0 _ _ | assumption | omega | exact ⟨by omega, by omega⟩) (fun h149 => ?_) (fun h149 => ?_)
                  · skip
                    refine x_iconst 157 C dX12_goesOn_156 rfl ?_
                    exact hJ157 _ (by first | (simp [bI, rCross, rFrom, h142, h149]; done) | (simp [bI, rCross, rFrom, h142, h149]; omega) | (simp [bI, rCross, rFrom, h142, h149] at *; omega))
                  · skip
                    refine x_iconst 153 C dX12_goesOn_152 rfl ?_
                    refine x_goto 157 C dX12_goesOn_153 (by decide) ?_
                    exact hJ157 _ (by first | (simp [bI, rCross, rFrom, h142, h149]; done) | (simp [bI, rCross, rFrom, h142, h149]; omega) | (simp [bI, rCross, rFrom, h142, h149] at *; omega))
            · skip
              refine x_iload 92 C dX12_goesOn_90 rfl rfl ?_
              refine x_iconst 93 C dX12_goesOn_92 rfl ?_
              refine x_icmp_ge 96 104 C dX12_goesOn_93 rfl (by decide) (by first | exact hho | exact hr2 _ _ | exact hw.2.2.1 _ _ | exact hr0 _ _ | assumption | omega | exact ⟨by omega, by omega⟩) (by first | exact hho | exact hr2 _ _ | exact hw.2.2.1 _ _ | exact hr0 _ _ | assumption | omega | exact ⟨by omega, by omega⟩) (fun h93 => ?_) (fun h93 => ?_)
              · skip
                refine x_iload 106 C dX12_goesOn_104 rfl rfl ?_
                refine x_iconst 107 C dX12_goesOn_106 rfl ?_
                refine x_icmp_ne 110 121 C dX12_goesOn_107 rfl (by decide) (by first | exact hho | exact hr2 _ _ | exact hw.2.2.1 _ _ | exact hr0 _ _ | assumption | omega | exact ⟨by omega, by omega⟩) (by first | exact hho | exact hr2 _ _ | exact hw.2.2.1 _ _ | exact hr0 _ _ | assumption | omega | exact ⟨by omega, by omega⟩) (fun h107 => ?_) (fun h107 => ?_)
                · skip
                  refine x_aload_n 122 C dX12_goesOn_121 rfl rfl ?_
                  refine x_mget 125 66 C fr_X12_306 dX12_goesOn_122 rfl rfl hM ?_
                  (try simp only [u2r, false_and, and_false, true_and, and_true, ↓reduceIte, Nat.reduceEqDiff])
                  exact hJ125 _ (by first | (simp [bI, rHow, h93, h107]; done) | (simp [bI, rHow, h93, h107]; omega) | (simp [bI, rHow, h93, h107] at *; omega))
                · skip
                  refine x_aload_n 111 C dX12_goesOn_110 rfl rfl ?_
                  refine x_mget 114 66 C fr_X12_306 dX12_goesOn_111 rfl rfl hM ?_
                  (try simp only [u2r, false_and, and_false, true_and, and_true, ↓reduceIte, Nat.reduceEqDiff])
                  refine x_if_le 117 121 C dX12_goesOn_114 rfl (by decide) (by first | exact hho | exact hr2 _ _ | exact hw.2.2.1 _ _ | exact hr0 _ _ | assumption | omega | exact ⟨by omega, by omega⟩) (fun h114 => ?_) (fun h114 => ?_)
                  · skip
                    refine x_aload_n 122 C dX12_goesOn_121 rfl rfl ?_
                    refine x_mget 125 66 C fr_X12_306 dX12_goesOn_122 rfl rfl hM ?_
                    (try simp only [u2r, false_and, and_false, true_and, and_true, ↓reduceIte, Nat.reduceEqDiff])
                    exact hJ125 _ (by first | (simp [bI, rHow, h93, h107, h114]; done) | (simp [bI, rHow, h93, h107, h114]; omega) | (simp [bI, rHow, h93, h107, h114] at *; omega))
                  · skip
                    refine x_iconst 118 C dX12_goesOn_117 rfl ?_
                    refine x_goto 125 C dX12_goesOn_118 (by decide) ?_
                    exact hJ125 _ (by first | (simp [bI, rHow, h93, h107, h114]; done) | (simp [bI, rHow, h93, h107, h114]; omega) | (simp [bI, rHow, h93, h107, h114] at *; omega))
              · skip
                refine x_aload_n 97 C dX12_goesOn_96 rfl rfl ?_
                refine x_mget 100 66 C fr_X12_306 dX12_goesOn_97 rfl rfl hM ?_
                (try simp only [u2r, false_and, and_false, true_and, and_true, ↓reduceIte, Nat.reduceEqDiff])
                refine x_iconst 101 C dX12_goesOn_100 rfl ?_
                refine x_icmp_eq 104 117 C dX12_goesOn_101 rfl (by decide) (by first | exact hho | exact hr2 _ _ | exact hw.2.2.1 _ _ | exact hr0 _ _ | assumption | omega | exact ⟨by omega, by omega⟩) (by first | exact hho | exact hr2 _ _ | exact hw.2.2.1 _ _ | exact hr0 _ _ | assumption | omega | exact ⟨by omega, by omega⟩) (fun h101 => ?_) (fun h101 => ?_)
                · skip
                  refine x_iconst 118 C dX12_goesOn_117 rfl ?_
                  refine x_goto 125 C dX12_goesOn_118 (by decide) ?_
                  exact hJ125 _ (by first | (simp [bI, rHow, h93, h101]; done) | (simp [bI, rHow, h93, h101]; omega) | (simp [bI, rHow, h93, h101] at *; omega))
                · skip
                  refine x_iload 106 C dX12_goesOn_104 rfl rfl ?_
                  refine x_iconst 107 C dX12_goesOn_106 rfl ?_
                  refine x_icmp_ne 110 121 C dX12_goesOn_107 rfl (by decide) (by first | exact hho | exact hr2 _ _ | exact hw.2.2.1 _ _ | exact hr0 _ _ | assumption | omega | exact ⟨by omega, by omega⟩) (by first | exact hho | exact hr2 _ _ | exact hw.2.2.1 _ _ | exact hr0 _ _ | assumption | omega | exact ⟨by omega, by omega⟩) (fun h107 => ?_) (fun h107 => ?_)
                  · skip
                    refine x_aload_n 122 C dX12_goesOn_121 rfl rfl ?_
                    refine x_mget 125 66 C fr_X12_306 dX12_goesOn_122 rfl rfl hM ?_
                    (try simp only [u2r, false_and, and_false, true_and, and_true, ↓reduceIte, Nat.reduceEqDiff])
                    exact hJ125 _ (by first | (simp [bI, rHow, h93, h101, h107]; done) | (simp [bI, rHow, h93, h101, h107]; omega) | (simp [bI, rHow, h93, h101, h107] at *; omega))
                  · skip
                    refine x_aload_n 111 C dX12_goesOn_110 rfl rfl ?_
                    refine x_mget 114 66 C fr_X12_306 dX12_goesOn_111 rfl rfl hM ?_
                    (try simp only [u2r, false_and, and_false, true_and, and_true, ↓reduceIte, Nat.reduceEqDiff])
                    refine x_if_le 117 121 C dX12_goesOn_114 rfl (by decide) (by first | exact hho | exact hr2 _ _ | exact hw.2.2.1 _ _ | exact hr0 _ _ | assumption | omega | exact ⟨by omega, by omega⟩) (fun h114 => ?_) (fun h114 => ?_)
                    · skip
                      refine x_aload_n 122 C dX12_goesOn_121 rfl rfl ?_
                      refine x_mget 125 66 C fr_X12_306 dX12_goesOn_122 rfl rfl hM ?_
                      (try simp only [u2r, false_and, and_false, true_and, and_true, ↓reduceIte, Nat.reduceEqDiff])
                      exact hJ125 _ (by first | (simp [bI, rHow, h93, h101, h107, h114]; done) | (simp [bI, rHow, h93, h101, h107, h114]; omega) | (simp [bI, rHow, h93, h101, h107, h114] at *; omega))
                    · skip
                      refine x_iconst 118 C dX12_goesOn_117 rfl ?_
                      refine x_goto 125 C dX12_goesOn_118 (by decide) ?_
                      exact hJ125 _ (by first | (simp [bI, rHow, h93, h101, h107, h114]; done) | (simp [bI, rHow, h93, h101, h107, h114]; omega) | (simp [bI, rHow, h93, h101, h107, h114] at *; omega))
          · skip
            refine x_iconst 80 C dX12_goesOn_79 rfl ?_
            exact x_iret C dX12_goesOn_80 rfl ⟨vi (by rw [rGoes2, ← i4, if_neg h51, if_neg (fun z => z (by omega)), if_pos (by omega)]), congrArg (wR G) (by first | (rw [rGoesR, ← i4, if_pos h51]; done) | (rw [rGoesR, ← i4, if_neg h51, if_pos h68]; done) | (rw [rGoesR, ← i4, if_neg h51, if_neg (fun z => z (by omega)), if_pos (by omega)]; done))⟩
        · skip
          refine x_iload 73 C dX12_goesOn_71 rfl rfl ?_
          exact x_iret C dX12_goesOn_73 rfl ⟨vi (by rw [rGoes2, ← i4, if_neg h51, if_pos h68]), congrArg (wR G) (by first | (rw [rGoesR, ← i4, if_pos h51]; done) | (rw [rGoesR, ← i4, if_neg h51, if_pos h68]; done) | (rw [rGoesR, ← i4, if_neg h51, if_neg (fun z => z (by omega)), if_pos (by omega)]; done))⟩
      · skip
        rw [if_pos h51]
        refine x_iconst 55 C dX12_goesOn_54 rfl ?_
        exact x_iret C dX12_goesOn_55 rfl ⟨vi (by rw [rGoes2, ← i4, if_pos h51]), congrArg (wR G) (by first | (rw [rGoesR, ← i4, if_pos h51]; done) | (rw [rGoesR, ← i4, if_neg h51, if_pos h68]; done) | (rw [rGoesR, ← i4, if_neg h51, if_neg (fun z => z (by omega)), if_pos (by omega)]; done))⟩
    · skip
      refine x_iload 30 C dX12_goesOn_28 rfl rfl ?_
      refine x_iconst 31 C dX12_goesOn_30 rfl ?_
      refine x_icmp_ne 34 38 C dX12_goesOn_31 rfl (by decide) (by first | exact hho | exact hr2 _ _ | exact hw.2.2.1 _ _ | exact hr0 _ _ | assumption | omega | exact ⟨by omega, by omega⟩) (by first | exact hho | exact hr2 _ _ | exact hw.2.2.1 _ _ | exact hr0 _ _ | assumption | omega | exact ⟨by omega, by omega⟩) (fun h31 => ?_) (fun h31 => ?_)
      · skip
        refine x_iload 40 C dX12_goesOn_38 rfl rfl ?_
        exact hJ40 _ (by first | (simp [bI, h31]; done) | (simp [bI, h31]; omega) | (simp [bI, h31] at *; omega))
      · skip
        refine x_iload_n 35 C dX12_goesOn_34 rfl rfl ?_
        refine x_goto 40 C dX12_goesOn_35 (by decide) ?_
        exact hJ40 _ (by first | (simp [bI, h31]; done) | (simp [bI, h31]; omega) | (simp [bI, h31] at *; omega))
