/-! rows laid by program (wip/tools/gen.py) -/
set_option maxHeartbeats 1000000 in
set_option maxRecDepth 100000 in
theorem c_X12_request {E : EV} {l : Launch} {G : GT} {R : RT} {o : Nat} {pg ad me mo cr hd : Int} (hM : RM G o) (h1 : InR pg) (h2 : InR ad) (h3 : InR me) (h4 : InR mo) (h5 : InR cr) (h6 : hd = 0 ∨ hd = 1) (hH : RH R) (hA : RA R) (hD : RAd R) (hP : RP R) (hS : RS R) (hX : RX R (6 * R 28 0)) (h28 : 0 ≤ R 28 0 ∧ R 28 0 ≤ 40) (h17 : ∀ j : Nat, (j : Int) < R 7 0 → 0 ≤ R 17 j ∧ R 17 j ≤ 1000) : MT E l yX12_request cX12_request 9 (some .int) 7 177 0 0 [.ref o, .int (i32 pg), .int (i32 ad), .int (i32 me), .int (i32 mo), .int (i32 cr), .int (i32 hd)] (wR G R) (pD (some (.int (i32 (rRq R pg ad me mo cr hd)))) (wR G (rRqR R pg ad me mo cr hd))) := by
  refine mt_of (own := RX12) (L := [some (.ref o), some (.int (i32 pg)), some (.int (i32 ad)), some (.int (i32 me)), some (.int (i32 mo)), some (.int (i32 cr)), some (.int (i32 hd)), none, none]) (by decide +kernel) rfl (Nat.le_of_ble_eq_true rfl) (List.forall_mem_cons.mpr ⟨rfl, (List.forall_mem_cons.mpr ⟨rfl, (List.forall_mem_cons.mpr ⟨rfl, (List.forall_mem_cons.mpr ⟨rfl, (List.forall_mem_cons.mpr ⟨rfl, (List.forall_mem_cons.mpr ⟨rfl, (List.forall_mem_cons.mpr ⟨rfl, (fun _ h => absurd h List.not_mem_nil)⟩)⟩)⟩)⟩)⟩)⟩)⟩) rfl ?_
  intro p e s m args below meth c C hin
  refine x_wf (fun hw => ?_)
  have hr0 : ∀ k j, InR (R k j) := hw.2.2.1
  have hz0 : ∀ k j, mZ k = true → R k j = 0 ∨ R k j = 1 := hw.2.2.2.2.1
  have hh := hA.1
  have hh2 := hA.2
  have hp1 := hP.1
  have hc : 0 ≤ rRqC R pg ad me mo cr hd ∧ rRqC R pg ad me mo cr hd ≤ 3 := by unfold rRqC; (repeat (first | omega | split))
  have hal : rRqAl mo cr = 0 ∨ rRqAl mo cr = 1 := by (unfold rRqAl; split <;> omega)
  have haf : rRqAf R pg mo = 0 ∨ rRqAf R pg mo = 1 := by (unfold rRqAf; split <;> omega)
  have hst : (if cr = 1 then (1 : Int) else 0) = 0 ∨ (if cr = 1 then (1 : Int) else 0) = 1 := by split <;> omega
  refine x_joinv 21 (fun vJ => vJ = bI (rRqIs R pg ad)) ?_ (fun hJ21 => ?_)
  · intro vJ hJ
    subst hJ
    refine x_istore 23 C dX12_request_21 rfl rfl rfl ?_
    refine x_joinv 73 (fun vJ => vJ = bI (rRqOk me mo cr hd)) ?_ (fun hJ73 => ?_)
    · intro vJ hJ
      subst hJ
      refine x_istore 75 C dX12_request_73 rfl rfl rfl ?_
      refine x_aload_n 76 C dX12_request_75 rfl rfl ?_
      refine x_joinv 124 (fun vJ => vJ = rRqC R pg ad me mo cr hd) ?_ (fun hJ124 => ?_)
      · intro vJ hJ
        subst hJ
        refine x_Vr (As := [_]) 127 C vw_X12_187 iw_X12_fails sw_X12_fails (c_X12_fails hM (by first | assumption | omega | exact ⟨by omega, by omega⟩)) dX12_request_124 rfl rfl rfl rfl rfl rfl hM.1 ⟨Nat.le_of_ble_eq_true rfl, Nat.le_of_ble_eq_true rfl⟩ (Nat.le_of_ble_eq_true rfl) ?_
        refine x_wf (fun hw => ?_)
        refine x_if_eqB 130 132 C dX12_request_127 rfl (by decide) (fun h127 => ?_) (fun h127 => ?_)
        · skip
          replace h127 := of_decide_eq_false h127
          obtain ⟨k1, k2, k3, k4, k5, k6⟩ := rRqC_0 h127
          refine x_aload_n 133 C dX12_request_132 rfl rfl ?_
          refine x_iload_n 134 C dX12_request_133 rfl rfl ?_
          refine x_mput 137 61 C fw_X12_312 dX12_request_134 rfl rfl rfl hM (by first | exact hw.2.2.1 _ _ | exact hr0 _ _ | assumption | omega | exact ⟨by omega, by omega⟩) (fun z => absurd z (by decide)) ?_
          refine x_wf (fun hw => ?_)
          refine x_aload_n 138 C dX12_request_137 rfl rfl ?_
          refine x_iload 140 C dX12_request_138 rfl rfl ?_
          refine x_mput 143 62 C fw_X12_276 dX12_request_140 rfl rfl rfl hM (by first | exact hw.2.2.1 _ _ | exact hr0 _ _ | assumption | omega | exact ⟨by omega, by omega⟩) (fun z => absurd z (by decide)) ?_
          refine x_wf (fun hw => ?_)
          refine x_aload_n 144 C dX12_request_143 rfl rfl ?_
          refine x_iload_n 145 C dX12_request_144 rfl rfl ?_
          refine x_mput 148 66 C fw_X12_306 dX12_request_145 rfl rfl rfl hM (by first | exact hw.2.2.1 _ _ | exact hr0 _ _ | assumption | omega | exact ⟨by omega, by omega⟩) (fun z => absurd z (by decide)) ?_
          refine x_wf (fun hw => ?_)
          refine x_aload_n 149 C dX12_request_148 rfl rfl ?_
          refine x_joinv 166 (fun vJ => vJ = rRqAl mo cr) ?_ (fun hJ166 => ?_)
          · intro vJ hJ
            subst hJ
            refine x_mput 169 63 C fw_X12_318 dX12_request_166 rfl rfl rfl hM (by first | exact hw.2.2.1 _ _ | exact hr0 _ _ | assumption | omega | exact ⟨by omega, by omega⟩) (fun _ => by first | assumption | omega | exact bI_01 _ | exact hw.2.2.2.2.1 _ _ rfl | exact hz0 _ _ rfl) ?_
            refine x_wf (fun hw => ?_)
            refine x_aload_n 170 C dX12_request_169 rfl rfl ?_
            refine x_joinv 181 (fun vJ => vJ = if cr = 1 then 1 else 0) ?_ (fun hJ181 => ?_)
            · intro vJ hJ
              subst hJ
              refine x_mput 184 64 C fw_X12_358 dX12_request_181 rfl rfl rfl hM (by first | exact hw.2.2.1 _ _ | exact hr0 _ _ | assumption | omega | exact ⟨by omega, by omega⟩) (fun _ => by first | assumption | omega | exact bI_01 _ | exact hw.2.2.2.2.1 _ _ rfl | exact hz0 _ _ rfl) ?_
              refine x_wf (fun hw => ?_)
              refine x_aload_n 185 C dX12_request_184 rfl rfl ?_
              refine x_iload 187 C dX12_request_185 rfl rfl ?_
              refine x_mput 190 65 C fw_X12_327 dX12_request_187 rfl rfl rfl hM (by first | exact hw.2.2.1 _ _ | exact hr0 _ _ | assumption | omega | exact ⟨by omega, by omega⟩) (fun _ => by first | assumption | omega | exact bI_01 _ | exact hw.2.2.2.2.1 _ _ rfl | exact hz0 _ _ rfl) ?_
              refine x_wf (fun hw => ?_)
              refine x_aload_n 191 C dX12_request_190 rfl rfl ?_
              refine x_iconst 192 C dX12_request_191 rfl ?_
              refine x_mput 195 67 C fw_X12_321 dX12_request_192 rfl rfl rfl hM (by first | exact hw.2.2.1 _ _ | exact hr0 _ _ | assumption | omega | exact ⟨by omega, by omega⟩) (fun _ => by first | assumption | omega | exact bI_01 _ | exact hw.2.2.2.2.1 _ _ rfl | exact hz0 _ _ rfl) ?_
              refine x_wf (fun hw => ?_)
              refine x_as (G' := wR G (rRqN R pg ad me mo cr hd)) (congrArg (wR G) rfl) rfl rfl ?_
              refine x_aload_n 196 C dX12_request_195 rfl rfl ?_
              refine x_joinv 215 (fun vJ => vJ = rRqAf R pg mo) ?_ (fun hJ215 => ?_)
              · intro vJ hJ
                subst hJ
                refine x_mput 218 68 C fw_X12_273 dX12_request_215 rfl rfl rfl hM (by first | exact hw.2.2.1 _ _ | exact hr0 _ _ | assumption | omega | exact ⟨by omega, by omega⟩) (fun _ => by first | assumption | omega | exact bI_01 _ | exact hw.2.2.2.2.1 _ _ rfl | exact hz0 _ _ rfl) ?_
                refine x_wf (fun hw => ?_)
                refine x_aload_n 219 C dX12_request_218 rfl rfl ?_
                refine x_iconst 220 C dX12_request_219 rfl ?_
                refine x_mput 223 69 C fw_X12_352 dX12_request_220 rfl rfl rfl hM (by first | exact hw.2.2.1 _ _ | exact hr0 _ _ | assumption | omega | exact ⟨by omega, by omega⟩) (fun _ => by first | assumption | omega | exact bI_01 _ | exact hw.2.2.2.2.1 _ _ rfl | exact hz0 _ _ rfl) ?_
                refine x_wf (fun hw => ?_)
                refine x_aload_n 224 C dX12_request_223 rfl rfl ?_
                refine x_mrow 227 30 C fr_X12_80 dX12_request_224 rfl rfl hM ?_
                refine x_aload_n 228 C dX12_request_227 rfl rfl ?_
                refine x_mget 231 28 C fr_X12_346 dX12_request_228 rfl rfl hM ?_
                (try simp only [u2r, false_and, and_false, true_and, and_true, ↓reduceIte, Nat.reduceEqDiff])
                rw [show (rRqN R pg ad me mo cr hd) 28 0 = R 28 0 from rfl]
                refine x_iconst 232 C dX12_request_231 rfl ?_
                refine x_mstI 233 30 C dX12_request_232 rfl rfl hM ⟨by omega, Int.lt_of_lt_of_le (b := 40) (by omega) (by decide)⟩ (by first | exact hw.2.2.1 _ _ | exact hr0 _ _ | assumption | omega | exact ⟨by omega, by omega⟩) ?_
                refine x_wf (fun hw => ?_)
                refine x_as (G' := wR G (rRq0 R pg ad me mo cr hd)) (congrArg (wR G) rfl) rfl rfl ?_
                have hgi := rRq0_I (me := me) (mo := mo) (cr := cr) (hd := hd) hX k1 k3 k4 k2
                have e28 : (rRq0 R pg ad me mo cr hd) 28 0 = R 28 0 := by rw [rRq0_out (by decide)]
                have hgo := rGoF_I (rRq0_Fs.H hH) (rRq0_Fs.A hA) (rRq0_Fs.Ad hD) (rRq0_Fs.S hS) (by rw [e28]; omega) 6 0 ad (rRq0 R pg ad me mo cr hd) hgi (by decide) (by decide)
                have ge : -1 ≤ rGoes2 (rRq0 R pg ad me mo cr hd) ad ∧ rGoes2 (rRq0 R pg ad me mo cr hd) ad ≤ 5 := hgo.2.2.2.2
                have g28 : rGoesR (rRq0 R pg ad me mo cr hd) ad 28 0 = R 28 0 := hgo.2.1.trans e28
                refine x_aload_n 234 C dX12_request_233 rfl rfl ?_
                refine x_mrow 237 29 C fr_X12_77 dX12_request_234 rfl rfl hM ?_
                refine x_aload_n 238 C dX12_request_237 rfl rfl ?_
                refine x_mget 241 28 C fr_X12_346 dX12_request_238 rfl rfl hM ?_
                (try simp only [u2r, false_and, and_false, true_and, and_true, ↓reduceIte, Nat.reduceEqDiff])
                rw [e28]
                refine x_aload_n 242 C dX12_request_241 rfl rfl ?_
                refine x_iload_n 243 C dX12_request_242 rfl rfl ?_
                refine x_Vr (As := [_]) 246 C vw_X12_381 iw_X12_goesOn sw_X12_goesOn (c_X12_goesOn (R := (rRq0 R pg ad me mo cr hd)) hM (rRq0_Fs.H hH) (rRq0_Fs.A hA) (rRq0_Fs.Ad hD) (rRq0_Fs.P hP) hgi.2.2.1 (rRq0_Fs.S hS) (by have := hgi.2.2.2.1; rw [Int.add_zero] at this; exact this) (by rw [e28]; omega) hgi.2.2.2.2.1 (by intro j hj; rw [rRq0_out (by decide)]; exact h17 j (by rw [rRq0_out (by decide)] at hj; exact hj)) hgi.2.2.2.2.2) dX12_request_243 rfl rfl rfl rfl rfl rfl hM.1 ⟨Nat.le_of_ble_eq_true rfl, Nat.le_of_ble_eq_true rfl⟩ (Nat.le_of_ble_eq_true rfl) ?_
                refine x_wf (fun hw => ?_)
                refine x_mstI 247 29 C dX12_request_246 rfl rfl hM ⟨by omega, Int.lt_of_lt_of_le (b := 40) (by omega) (by decide)⟩ (by first | exact hw.2.2.1 _ _ | exact hr0 _ _ | assumption | omega | exact ⟨by omega, by omega⟩) ?_
                refine x_wf (fun hw => ?_)
                refine x_aload_n 248 C dX12_request_247 rfl rfl ?_
                refine x_dup 249 C dX12_request_248 rfl rfl ?_
                refine x_mget 252 28 C fr_X12_346 dX12_request_249 rfl rfl hM ?_
                (try simp only [u2r, false_and, and_false, true_and, and_true, ↓reduceIte, Nat.reduceEqDiff])
                (try rw [g28])
                refine x_iconst 253 C dX12_request_252 rfl ?_
                refine x_iadd 254 C dX12_request_253 rfl ?_
                refine x_mput 257 28 C fw_X12_346 dX12_request_254 rfl rfl rfl hM (by first | exact hw.2.2.1 _ _ | exact hr0 _ _ | assumption | omega | exact ⟨by omega, by omega⟩) (fun z => absurd z (by decide)) ?_
                refine x_wf (fun hw => ?_)
                refine x_aload_n 258 C dX12_request_257 rfl rfl ?_
                refine x_mrow 261 29 C fr_X12_77 dX12_request_258 rfl rfl hM ?_
                refine x_aload_n 262 C dX12_request_261 rfl rfl ?_
                refine x_mget 265 28 C fr_X12_346 dX12_request_262 rfl rfl hM ?_
                (try simp only [u2r, false_and, and_false, true_and, and_true, ↓reduceIte, Nat.reduceEqDiff])
                (try rw [g28])
                refine x_iconst 266 C dX12_request_265 rfl ?_
                refine x_isub 267 C dX12_request_266 rfl ?_
                refine x_mldI 268 29 C dX12_request_267 rfl rfl hM (by first | exact hIx | exact ⟨by omega, Int.lt_of_lt_of_le (b := 40) (by omega) (by decide)⟩) ?_
                (try simp only [u2r, false_and, and_false, true_and, and_true, ↓reduceIte, Nat.reduceEqDiff])
                exact x_iret C dX12_request_268 rfl ⟨vi (by rw [rRq, if_neg h127]; simp [u2r]), congrArg (wR G) (by first | (rw [rRqR, if_pos h127]; rfl) | (rw [rRqR, if_neg h127]; done))⟩
              · skip
                refine x_iload 198 C dX12_request_196 rfl rfl ?_
                refine x_iconst 199 C dX12_request_198 rfl ?_
                refine x_icmp_eq 202 214 C dX12_request_199 rfl (by decide) (by first | exact hw.2.2.1 _ _ | exact hr0 _ _ | assumption | omega | exact ⟨by omega, by omega⟩) (by first | exact hw.2.2.1 _ _ | exact hr0 _ _ | assumption | omega | exact ⟨by omega, by omega⟩) (fun h199 => ?_) (fun h199 => ?_)
                · skip
                  refine x_iconst 215 C dX12_request_214 rfl ?_
                  exact hJ215 _ (by first | (simp [bI, rRqAf, h199]; done) | (simp [bI, rRqAf, h199]; omega) | (simp [bI, rRqAf, h199] at *; omega))
                · skip
                  refine x_aload_n 203 C dX12_request_202 rfl rfl ?_
                  refine x_iload_n 204 C dX12_request_203 rfl rfl ?_
                  refine x_Vr (As := [_]) 207 C vw_X12_378 iw_X12_isForeign sw_X12_isForeign (c_X12_isForeign (R := (rRqN R pg ad me mo cr hd)) hM (rRqN_Fs.H hH) (rRqN_Fs.A hA) (rRqN_Fs.Ad hD) (rRqN_Fs.P hP) (by show 0 ≤ pg ∧ pg < R 24 0; omega)) dX12_request_204 rfl rfl rfl rfl rfl rfl hM.1 ⟨Nat.le_of_ble_eq_true rfl, Nat.le_of_ble_eq_true rfl⟩ (Nat.le_of_ble_eq_true rfl) ?_
                  rw [rRqN_Fs.foreign]
                  refine x_if_eqB 210 214 C dX12_request_207 rfl (by decide) (fun h207 => ?_) (fun h207 => ?_)
                  · skip
                    refine x_iconst 215 C dX12_request_214 rfl ?_
                    exact hJ215 _ (by first | (simp [bI, rRqAf, h199, h207]; done) | (simp [bI, rRqAf, h199, h207]; omega) | (simp [bI, rRqAf, h199, h207] at *; omega))
                  · skip
                    refine x_iconst 211 C dX12_request_210 rfl ?_
                    refine x_goto 215 C dX12_request_211 (by decide) ?_
                    exact hJ215 _ (by first | (simp [bI, rRqAf, h199, h207]; done) | (simp [bI, rRqAf, h199, h207]; omega) | (simp [bI, rRqAf, h199, h207] at *; omega))
            · skip
              refine x_iload 172 C dX12_request_170 rfl rfl ?_
              refine x_iconst 173 C dX12_request_172 rfl ?_
              refine x_icmp_ne 176 180 C dX12_request_173 rfl (by decide) (by first | exact hw.2.2.1 _ _ | exact hr0 _ _ | assumption | omega | exact ⟨by omega, by omega⟩) (by first | exact hw.2.2.1 _ _ | exact hr0 _ _ | assumption | omega | exact ⟨by omega, by omega⟩) (fun h173 => ?_) (fun h173 => ?_)
              · skip
                refine x_iconst 181 C dX12_request_180 rfl ?_
                exact hJ181 _ (by first | (simp [bI, h173]; done) | (simp [bI, h173]; omega) | (simp [bI, h173] at *; omega))
              · skip
                refine x_iconst 177 C dX12_request_176 rfl ?_
                refine x_goto 181 C dX12_request_177 (by decide) ?_
                exact hJ181 _ (by first | (simp [bI, h173]; done) | (simp [bI, h173]; omega) | (simp [bI, h173] at *; omega))
          · skip
            refine x_iload 151 C dX12_request_149 rfl rfl ?_
            refine x_iconst 152 C dX12_request_151 rfl ?_
            refine x_icmp_eq 155 161 C dX12_request_152 rfl (by decide) (by first | exact hw.2.2.1 _ _ | exact hr0 _ _ | assumption | omega | exact ⟨by omega, by omega⟩) (by first | exact hw.2.2.1 _ _ | exact hr0 _ _ | assumption | omega | exact ⟨by omega, by omega⟩) (fun h152 => ?_) (fun h152 => ?_)
            · skip
              refine x_iconst 162 C dX12_request_161 rfl ?_
              refine x_goto 166 C dX12_request_162 (by decide) ?_
              exact hJ166 _ (by first | (simp [bI, rRqAl, h152]; done) | (simp [bI, rRqAl, h152]; omega) | (simp [bI, rRqAl, h152] at *; omega))
            · skip
              refine x_iload 157 C dX12_request_155 rfl rfl ?_
              refine x_iconst 158 C dX12_request_157 rfl ?_
              refine x_icmp_ne 161 165 C dX12_request_158 rfl (by decide) (by first | exact hw.2.2.1 _ _ | exact hr0 _ _ | assumption | omega | exact ⟨by omega, by omega⟩) (by first | exact hw.2.2.1 _ _ | exact hr0 _ _ | assumption | omega | exact ⟨by omega, by omega⟩) (fun h158 => ?_) (fun h158 => ?_)
              · skip
                refine x_iconst 166 C dX12_request_165 rfl ?_
                exact hJ166 _ (by first | (simp [bI, rRqAl, h152, h158]; done) | (simp [bI, rRqAl, h152, h158]; omega) | (simp [bI, rRqAl, h152, h158] at *; omega))
              · skip
                refine x_iconst 162 C dX12_request_161 rfl ?_
                refine x_goto 166 C dX12_request_162 (by decide) ?_
                exact hJ166 _ (by first | (simp [bI, rRqAl, h152, h158]; done) | (simp [bI, rRqAl, h152, h158]; omega) | (simp [bI, rRqAl, h152, h158] at *; omega))
        · skip
          replace h127 := of_decide_eq_true h127
          refine x_iconst 131 C dX12_request_130 rfl ?_
          exact x_iret C dX12_request_131 rfl ⟨vi (by rw [rRq, if_pos h127]), congrArg (wR G) (by first | (rw [rRqR, if_pos h127]; rfl) | (rw [rRqR, if_neg h127]; done))⟩
      · skip
        refine x_iload 78 C dX12_request_76 rfl rfl ?_
        refine x_if_neB 81 85 C dX12_request_78 rfl (by decide) (fun h78 => ?_) (fun h78 => ?_)
        · skip
          refine x_iload 87 C dX12_request_85 rfl rfl ?_
          refine x_if_neB 90 94 C dX12_request_87 rfl (by decide) (fun h87 => ?_) (fun h87 => ?_)
          · skip
            refine x_aload_n 95 C dX12_request_94 rfl rfl ?_
            refine x_mget 98 28 C fr_X12_346 dX12_request_95 rfl rfl hM ?_
            refine x_bipush 100 C dX12_request_98 rfl (by decide) ?_
            refine x_icmp_eq 103 119 C dX12_request_100 rfl (by decide) (by first | exact hw.2.2.1 _ _ | exact hr0 _ _ | assumption | omega | exact ⟨by omega, by omega⟩) (by first | exact hw.2.2.1 _ _ | exact hr0 _ _ | assumption | omega | exact ⟨by omega, by omega⟩) (fun h100 => ?_) (fun h100 => ?_)
            · skip
              refine x_iconst 120 C dX12_request_119 rfl ?_
              refine x_goto 124 C dX12_request_120 (by decide) ?_
              exact hJ124 _ (by first | (simp [bI, rRqC, h78, h87, h100]; done) | (simp [bI, rRqC, h78, h87, h100]; omega) | (simp [bI, rRqC, h78, h87, h100] at *; omega))
            · skip
              refine x_iload 105 C dX12_request_103 rfl rfl ?_
              refine x_iconst 106 C dX12_request_105 rfl ?_
              refine x_icmp_ne 109 123 C dX12_request_106 rfl (by decide) (by first | exact hw.2.2.1 _ _ | exact hr0 _ _ | assumption | omega | exact ⟨by omega, by omega⟩) (by first | exact hw.2.2.1 _ _ | exact hr0 _ _ | assumption | omega | exact ⟨by omega, by omega⟩) (fun h106 => ?_) (fun h106 => ?_)
              · skip
                refine x_iconst 124 C dX12_request_123 rfl ?_
                exact hJ124 _ (by first | (simp [bI, rRqC, h78, h87, h100, h106]; done) | (simp [bI, rRqC, h78, h87, h100, h106]; omega) | (simp [bI, rRqC, h78, h87, h100, h106] at *; omega))
              · skip
                have hpg : 0 ≤ pg ∧ pg ≤ R 24 0 - 1 := by (have z := h78; unfold rRqIs rIsPage at z; simp only [Bool.and_eq_true] at z; exact rLies_t.mp z.1)
                refine x_aload_n 110 C dX12_request_109 rfl rfl ?_
                refine x_mrow 113 26 C fr_X12_71 dX12_request_110 rfl rfl hM ?_
                refine x_iload_n 114 C dX12_request_113 rfl rfl ?_
                refine x_mldI 115 26 C dX12_request_114 rfl rfl hM (by first | exact hIx | exact ⟨by omega, Int.lt_of_lt_of_le (b := 8) (by omega) (by decide)⟩) ?_
                refine x_iconst 116 C dX12_request_115 rfl ?_
                refine x_icmp_eq 119 123 C dX12_request_116 rfl (by decide) (by first | exact hw.2.2.1 _ _ | exact hr0 _ _ | assumption | omega | exact ⟨by omega, by omega⟩) (by first | exact hw.2.2.1 _ _ | exact hr0 _ _ | assumption | omega | exact ⟨by omega, by omega⟩) (fun h116 => ?_) (fun h116 => ?_)
                · skip
                  refine x_iconst 124 C dX12_request_123 rfl ?_
                  exact hJ124 _ (by first | (simp [bI, rRqC, h78, h87, h100, h106, h116]; done) | (simp [bI, rRqC, h78, h87, h100, h106, h116]; omega) | (simp [bI, rRqC, h78, h87, h100, h106, h116] at *; omega))
                · skip
                  refine x_iconst 120 C dX12_request_119 rfl ?_
                  refine x_goto 124 C dX12_request_120 (by decide) ?_
                  exact hJ124 _ (by first | (simp [bI, rRqC, h78, h87, h100, h106, h116]; done) | (simp [bI, rRqC, h78, h87, h100, h106, h116]; omega) | (simp [bI, rRqC, h78, h87, h100, h106, h116] at *; omega))
          · skip
            refine x_iconst 91 C dX12_request_90 rfl ?_
            refine x_goto 124 C dX12_request_91 (by decide) ?_
            exact hJ124 _ (by first | (simp [bI, rRqC, h78, h87]; done) | (simp [bI, rRqC, h78, h87]; omega) | (simp [bI, rRqC, h78, h87] at *; omega))
        · skip
          refine x_iconst 82 C dX12_request_81 rfl ?_
          refine x_goto 124 C dX12_request_82 (by decide) ?_
          exact hJ124 _ (by first | (simp [bI, rRqC, h78]; done) | (simp [bI, rRqC, h78]; omega) | (simp [bI, rRqC, h78] at *; omega))
    · skip
      refine x_iload_n 24 C dX12_request_23 rfl rfl ?_
      refine x_iconst 25 C dX12_request_24 rfl ?_
      refine x_iconst 26 C dX12_request_25 rfl ?_
      refine x_Sr (As := [_, _, _]) 29 C vw_X12_168 tw_X12_lies (c_X12_lies (by first | assumption | omega) (by omega) (by omega)) dX12_request_26 rfl rfl rfl ⟨Nat.le_of_ble_eq_true rfl, Nat.le_of_ble_eq_true rfl⟩ (Nat.le_of_ble_eq_true rfl) ?_
      refine x_if_eqB 32 72 C dX12_request_29 rfl (by decide) (fun h29 => ?_) (fun h29 => ?_)
      · skip
        refine x_iconst 73 C dX12_request_72 rfl ?_
        exact hJ73 _ (by first | (simp [bI, rRqOk, h29]; done) | (simp [bI, rRqOk, h29]; omega) | (simp [bI, rRqOk, h29] at *; omega))
      · skip
        refine x_iload 34 C dX12_request_32 rfl rfl ?_
        refine x_iconst 35 C dX12_request_34 rfl ?_
        refine x_iconst 36 C dX12_request_35 rfl ?_
        refine x_Sr (As := [_, _, _]) 39 C vw_X12_168 tw_X12_lies (c_X12_lies (by first | assumption | omega) (by omega) (by omega)) dX12_request_36 rfl rfl rfl ⟨Nat.le_of_ble_eq_true rfl, Nat.le_of_ble_eq_true rfl⟩ (Nat.le_of_ble_eq_true rfl) ?_
        refine x_if_eqB 42 72 C dX12_request_39 rfl (by decide) (fun h39 => ?_) (fun h39 => ?_)
        · skip
          refine x_iconst 73 C dX12_request_72 rfl ?_
          exact hJ73 _ (by first | (simp [bI, rRqOk, h29, h39]; done) | (simp [bI, rRqOk, h29, h39]; omega) | (simp [bI, rRqOk, h29, h39] at *; omega))
        · skip
          refine x_iload 44 C dX12_request_42 rfl rfl ?_
          refine x_iconst 45 C dX12_request_44 rfl ?_
          refine x_iconst 46 C dX12_request_45 rfl ?_
          refine x_Sr (As := [_, _, _]) 49 C vw_X12_168 tw_X12_lies (c_X12_lies (by first | assumption | omega) (by omega) (by omega)) dX12_request_46 rfl rfl rfl ⟨Nat.le_of_ble_eq_true rfl, Nat.le_of_ble_eq_true rfl⟩ (Nat.le_of_ble_eq_true rfl) ?_
          refine x_if_eqB 52 72 C dX12_request_49 rfl (by decide) (fun h49 => ?_) (fun h49 => ?_)
          · skip
            refine x_iconst 73 C dX12_request_72 rfl ?_
            exact hJ73 _ (by first | (simp [bI, rRqOk, h29, h39, h49]; done) | (simp [bI, rRqOk, h29, h39, h49]; omega) | (simp [bI, rRqOk, h29, h39, h49] at *; omega))
          · skip
            refine x_iload 54 C dX12_request_52 rfl rfl ?_
            refine x_iconst 55 C dX12_request_54 rfl ?_
            refine x_icmp_eq 58 68 C dX12_request_55 rfl (by decide) (by first | exact hw.2.2.1 _ _ | exact hr0 _ _ | assumption | omega | exact ⟨by omega, by omega⟩) (by first | exact hw.2.2.1 _ _ | exact hr0 _ _ | assumption | omega | exact ⟨by omega, by omega⟩) (fun h55 => ?_) (fun h55 => ?_)
            · skip
              refine x_iconst 69 C dX12_request_68 rfl ?_
              refine x_goto 73 C dX12_request_69 (by decide) ?_
              exact hJ73 _ (by first | (simp [bI, rRqOk, h29, h39, h49, h55]; done) | (simp [bI, rRqOk, h29, h39, h49, h55]; omega) | (simp [bI, rRqOk, h29, h39, h49, h55] at *; omega))
            · skip
              refine x_iload_n 59 C dX12_request_58 rfl rfl ?_
              refine x_iconst 60 C dX12_request_59 rfl ?_
              refine x_icmp_ge 63 72 C dX12_request_60 rfl (by decide) (by first | exact hw.2.2.1 _ _ | exact hr0 _ _ | assumption | omega | exact ⟨by omega, by omega⟩) (by first | exact hw.2.2.1 _ _ | exact hr0 _ _ | assumption | omega | exact ⟨by omega, by omega⟩) (fun h60 => ?_) (fun h60 => ?_)
              · skip
                refine x_iconst 73 C dX12_request_72 rfl ?_
                exact hJ73 _ (by first | (simp [bI, rRqOk, h29, h39, h49, h55, h60]; done) | (simp [bI, rRqOk, h29, h39, h49, h55, h60]; omega) | (simp [bI, rRqOk, h29, h39, h49, h55, h60] at *; omega))
              · skip
                refine x_iload 65 C dX12_request_63 rfl rfl ?_
                refine x_if_ne 68 72 C dX12_request_65 rfl (by decide) (by first | exact hw.2.2.1 _ _ | exact hr0 _ _ | assumption | omega | exact ⟨by omega, by omega⟩) (fun h65 => ?_) (fun h65 => ?_)
                · skip
                  refine x_iconst 73 C dX12_request_72 rfl ?_
                  exact hJ73 _ (by first | (simp [bI, rRqOk, h29, h39, h49, h55, h60, h65]; done) | (simp [bI, rRqOk, h29, h39, h49, h55, h60, h65]; omega) | (simp [bI, rRqOk, h29, h39, h49, h55, h60, h65] at *; omega))
                · skip
                  refine x_iconst 69 C dX12_request_68 rfl ?_
                  refine x_goto 73 C dX12_request_69 (by decide) ?_
                  exact hJ73 _ (by first | (simp [bI, rRqOk, h29, h39, h49, h55, h60, h65]; done) | (simp [bI, rRqOk, h29, h39, h49, h55, h60, h65]; omega) | (simp [bI, rRqOk, h29, h39, h49, h55, h60, h65] at *; omega))
  · skip
    refine x_aload_n 1 C dX12_request_0 rfl rfl ?_
    refine x_iload_n 2 C dX12_request_1 rfl rfl ?_
    refine x_Vr (As := [_]) 5 C vw_X12_232 iw_X12_isPage sw_X12_isPage (c_X12_isPage hM (by assumption) hP) dX12_request_2 rfl rfl rfl rfl rfl rfl hM.1 ⟨Nat.le_of_ble_eq_true rfl, Nat.le_of_ble_eq_true rfl⟩ (Nat.le_of_ble_eq_true rfl) ?_
    refine x_if_eqB 8 20 C dX12_request_5 rfl (by decide) (fun h5 => ?_) (fun h5 => ?_)
    · skip
      refine x_iconst 21 C dX12_request_20 rfl ?_
      exact hJ21 _ (by first | (simp [bI, rRqIs, h5]; done) | (simp [bI, rRqIs, h5]; omega) | (simp [bI, rRqIs, h5] at *; omega))
    · skip
      refine x_aload_n 9 C dX12_request_8 rfl rfl ?_
      refine x_iload_n 10 C dX12_request_9 rfl rfl ?_
      refine x_Vr (As := [_]) 13 C vw_X12_203 iw_X12_isAddress sw_X12_isAddress (c_X12_isAddress hM (by assumption) hA) dX12_request_10 rfl rfl rfl rfl rfl rfl hM.1 ⟨Nat.le_of_ble_eq_true rfl, Nat.le_of_ble_eq_true rfl⟩ (Nat.le_of_ble_eq_true rfl) ?_
      refine x_if_eqB 16 20 C dX12_request_13 rfl (by decide) (fun h13 => ?_) (fun h13 => ?_)
      · skip
        refine x_iconst 21 C dX12_request_20 rfl ?_
        exact hJ21 _ (by first | (simp [bI, rRqIs, h5, h13]; done) | (simp [bI, rRqIs, h5, h13]; omega) | (simp [bI, rRqIs, h5, h13] at *; omega))
      · skip
        refine x_iconst 17 C dX12_request_16 rfl ?_
        refine x_goto 21 C dX12_request_17 (by decide) ?_
        exact hJ21 _ (by first | (simp [bI, rRqIs, h5, h13]; done) | (simp [bI, rRqIs, h5, h13]; omega) | (simp [bI, rRqIs, h5, h13] at *; omega))
