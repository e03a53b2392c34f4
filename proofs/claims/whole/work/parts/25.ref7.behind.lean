/-! rows laid by program (wip/tools/gen.py) -/
set_option maxHeartbeats 4000000 in
set_option maxRecDepth 100000 in
theorem c_X12_behind {E : EV} {l : Launch} {G : GT} {R : RT} {o : Nat} {a k : Int} (hM : RM G o) (hA : RA R) (hD : RAd R) (h1 : 0 ≤ a ∧ a < R 7 0) (h2 : 0 ≤ k ∧ k ≤ 2147483647) : MT E l yX12_behind cX12_behind 7 (some .char) 0 0 0 0 [.ref o, .int (i32 a), .int (i32 k)] (wR G R) (pD (some (.int (i32 (rBeh R a k)))) (wR G (R))) := by
  refine mt_of (own := RX12) (L := [some (.ref o), some (.int (i32 a)), some (.int (i32 k)), none, none, none, none]) (by decide +kernel) rfl (Nat.le_of_ble_eq_true rfl) (List.forall_mem_cons.mpr ⟨rfl, (List.forall_mem_cons.mpr ⟨rfl, (List.forall_mem_cons.mpr ⟨rfl, (fun _ h => absurd h List.not_mem_nil)⟩)⟩)⟩) rfl ?_
  intro p e s m args below meth c C hin
  refine x_wf (fun hw => ?_)
  have hr0 : ∀ k j, InR (R k j) := hw.2.2.1
  have hz0 : ∀ k j, mZ k = true → R k j = 0 ∨ R k j = 1 := hw.2.2.2.2.1
  have hh := hA.1
  have hh2 := hA.2
  obtain ⟨d1, d2, d3, d4, -⟩ := hD a.toNat (by omega)
  have hdg := rDig_in (R 10 a.toNat)
  have hm := rMany_in (R 11 a.toNat)
  refine x_iload_n 1 C dX12_behind_0 rfl rfl ?_
  refine x_istore_n 2 C dX12_behind_1 rfl rfl rfl ?_
  refine x_join (α := Int) 121 (fun v => 0 ≤ v ∧ v ≤ 2147483647 ∧ rBeh R a k = rBeh2 R a v) (fun v => wR G R) (fun v => [some (.ref o), some (.int (i32 a)), some (.int (i32 k)), some (.int (i32 v)), none, none, none]) (fun v => []) ?_ (fun hJ121 => ?_)
  · intro aa hJ
    obtain ⟨v, rfl⟩ := (⟨aa, rfl⟩ : ∃ z, z = aa)
    (try dsimp only at hJ); (try dsimp only)
    obtain ⟨v1, v2, v3⟩ := hJ
    refine x_joinv 165 (fun vJ => vJ = rMany (R 11 a.toNat)) ?_ (fun hJ165 => ?_)
    · intro vJ hJ
      subst hJ
      refine x_istore 167 C dX12_behind_165 rfl rfl rfl ?_
      refine x_iload 169 C dX12_behind_167 rfl rfl ?_
      refine x_if_ne 172 184 C dX12_behind_169 rfl (by decide) (by first | exact hw.2.2.1 _ _ | exact hr0 _ _ | assumption | omega | exact ⟨by omega, by omega⟩) (fun h169 => ?_) (fun h169 => ?_)
      · skip
        refine x_iload_n 185 C dX12_behind_184 rfl rfl ?_
        refine x_iconst 186 C dX12_behind_185 rfl ?_
        refine x_iload 188 C dX12_behind_186 rfl rfl ?_
        refine x_imul 189 C dX12_behind_188 rfl ?_
        refine x_icmp_lt 192 195 C dX12_behind_189 rfl (by decide) (by first | exact hw.2.2.1 _ _ | exact hr0 _ _ | assumption | omega | exact ⟨by omega, by omega⟩) (by first | exact hw.2.2.1 _ _ | exact hr0 _ _ | assumption | omega | exact ⟨by omega, by omega⟩) (fun h189 => ?_) (fun h189 => ?_)
        · skip
          refine x_aload_n 196 C dX12_behind_195 rfl rfl ?_
          refine x_mrow 199 11 C fr_X12_29 dX12_behind_196 rfl rfl hM ?_
          refine x_iload_n 200 C dX12_behind_199 rfl rfl ?_
          refine x_mldI 201 11 C dX12_behind_200 rfl rfl hM (by first | exact hIx | exact ⟨by omega, Int.lt_of_lt_of_le (b := 24) (by omega) (by decide)⟩) ?_
          (try simp only [u2r, false_and, and_false, true_and, and_true, ↓reduceIte, Nat.reduceEqDiff])
          refine x_istore 203 C dX12_behind_201 rfl rfl rfl ?_
          refine x_iload_n 204 C dX12_behind_203 rfl rfl ?_
          refine x_iconst 205 C dX12_behind_204 rfl ?_
          refine x_idiv 206 C dX12_behind_205 rfl (by omega) ?_
          refine x_iconst 207 C dX12_behind_206 rfl ?_
          refine x_iadd 208 C dX12_behind_207 rfl ?_
          refine x_istore 210 C dX12_behind_208 rfl rfl rfl ?_
          refine x_loop (α := Int × Int) (fun ⟨x, q⟩ => (rMany (R 11 a.toNat) - q).toNat) (fun ⟨x, q⟩ => 0 ≤ x ∧ x ≤ 999 ∧ q ≤ rMany (R 11 a.toNat) ∧ 0 ≤ q ∧ rDivs (rMany (R 11 a.toNat) - q).toNat x = rDivs (rMany (R 11 a.toNat) - (v / 2 + 1)).toNat (R 11 a.toNat)) (fun ⟨x, q⟩ => wR G R) (fun ⟨x, q⟩ => [some (.ref o), some (.int (i32 a)), some (.int (i32 k)), some (.int (i32 v)), some (.int (i32 (rMany (R 11 a.toNat)))), some (.int (i32 x)), some (.int (i32 q))]) (fun _ => []) (R 11 a.toNat, v / 2 + 1) ⟨by (try dsimp only); omega, by (try dsimp only); omega, by (try dsimp only); omega, by (try dsimp only); omega, rfl⟩ rfl rfl rfl ?_
          intro aa hI ih
          obtain ⟨x, q⟩ := aa
          (try dsimp only at hI); (try dsimp only at ih); (try dsimp only)
          obtain ⟨i1, i2, i3, i4, i5⟩ := hI
          refine x_iload 212 C dX12_behind_210 rfl rfl ?_
          refine x_iload 214 C dX12_behind_212 rfl rfl ?_
          refine x_icmp_ge 217 230 C dX12_behind_214 rfl (by decide) (by first | exact hw.2.2.1 _ _ | exact hr0 _ _ | assumption | omega | exact ⟨by omega, by omega⟩) (by first | exact hw.2.2.1 _ _ | exact hr0 _ _ | assumption | omega | exact ⟨by omega, by omega⟩) (fun h214 => ?_) (fun h214 => ?_)
          · skip
            refine x_iload_n 231 C dX12_behind_230 rfl rfl ?_
            refine x_iconst 232 C dX12_behind_231 rfl ?_
            refine x_irem 233 C dX12_behind_232 rfl (by omega) ?_
            refine x_if_ne 236 241 C dX12_behind_233 rfl (by decide) (by first | exact hw.2.2.1 _ _ | exact hr0 _ _ | assumption | omega | exact ⟨by omega, by omega⟩) (fun h233 => ?_) (fun h233 => ?_)
            · skip
              refine x_bipush 243 C dX12_behind_241 rfl (by decide) ?_
              refine x_iload 245 C dX12_behind_243 rfl rfl ?_
              refine x_bipush 247 C dX12_behind_245 rfl (by decide) ?_
              refine x_irem 248 C dX12_behind_247 rfl (by omega) ?_
              refine x_iadd 249 C dX12_behind_248 rfl ?_
              refine x_i2c 250 C dX12_behind_249 rfl (by omega) ?_
              exact x_iret C dX12_behind_250 (nar_c (by omega)) ⟨vi (by rw [v3, rBeh2, if_neg h169, if_neg (by omega)]; first | (rw [if_pos h233]; done) | (rw [if_neg h233, ← i5, show (rMany (R 11 a.toNat) - q).toNat = 0 by omega, rDivs]; done)), rfl⟩
            · skip
              refine x_bipush 238 C dX12_behind_236 rfl (by decide) ?_
              refine x_goto 250 C dX12_behind_238 (by decide) ?_
              exact x_iret C dX12_behind_250 (nar_c (by omega)) ⟨vi (by rw [v3, rBeh2, if_neg h169, if_neg (by omega)]; first | (rw [if_pos h233]; done) | (rw [if_neg h233, ← i5, show (rMany (R 11 a.toNat) - q).toNat = 0 by omega, rDivs]; done)), rfl⟩
          · skip
            refine x_iload 219 C dX12_behind_217 rfl rfl ?_
            refine x_bipush 221 C dX12_behind_219 rfl (by decide) ?_
            refine x_idiv 222 C dX12_behind_221 rfl (by omega) ?_
            refine x_istore 224 C dX12_behind_222 rfl rfl rfl ?_
            refine x_iinc 227 C dX12_behind_224 rfl rfl rfl rfl ?_
            refine x_goto 210 C dX12_behind_227 (by decide) ?_
            exact ih (x / 10, q + 1) ⟨by dsimp only; omega, by dsimp only; omega, by dsimp only; omega, by dsimp only; omega, by dsimp only; rw [← i5, show (rMany (R 11 a.toNat) - q).toNat = (rMany (R 11 a.toNat) - (q + 1)).toNat + 1 by omega, rDivs]⟩ (by dsimp only; omega)
        · skip
          refine x_bipush 194 C dX12_behind_192 rfl (by decide) ?_
          exact x_iret C dX12_behind_194 (nar_c (by omega)) ⟨vi (by rw [v3, rBeh2, if_neg h169, if_pos (by omega)]), rfl⟩
      · skip
        refine x_iload_n 173 C dX12_behind_172 rfl rfl ?_
        refine x_if_ne 176 181 C dX12_behind_173 rfl (by decide) (by first | exact hw.2.2.1 _ _ | exact hr0 _ _ | assumption | omega | exact ⟨by omega, by omega⟩) (fun h173 => ?_) (fun h173 => ?_)
        · skip
          refine x_bipush 183 C dX12_behind_181 rfl (by decide) ?_
          exact x_iret C dX12_behind_183 (nar_c (by omega)) ⟨vi (by rw [v3, rBeh2, if_pos h169]; first | (rw [if_pos h173]; done) | (rw [if_neg h173]; done)), rfl⟩
        · skip
          refine x_bipush 178 C dX12_behind_176 rfl (by decide) ?_
          refine x_goto 183 C dX12_behind_178 (by decide) ?_
          exact x_iret C dX12_behind_183 (nar_c (by omega)) ⟨vi (by rw [v3, rBeh2, if_pos h169]; first | (rw [if_pos h173]; done) | (rw [if_neg h173]; done)), rfl⟩
    · skip
      refine x_aload_n 122 C dX12_behind_121 rfl rfl ?_
      refine x_mrow 125 11 C fr_X12_29 dX12_behind_122 rfl rfl hM ?_
      refine x_iload_n 126 C dX12_behind_125 rfl rfl ?_
      refine x_mldI 127 11 C dX12_behind_126 rfl rfl hM (by first | exact hIx | exact ⟨by omega, Int.lt_of_lt_of_le (b := 24) (by omega) (by decide)⟩) ?_
      (try simp only [u2r, false_and, and_false, true_and, and_true, ↓reduceIte, Nat.reduceEqDiff])
      refine x_bipush 129 C dX12_behind_127 rfl (by decide) ?_
      refine x_icmp_le 132 136 C dX12_behind_129 rfl (by decide) (by first | exact hw.2.2.1 _ _ | exact hr0 _ _ | assumption | omega | exact ⟨by omega, by omega⟩) (by first | exact hw.2.2.1 _ _ | exact hr0 _ _ | assumption | omega | exact ⟨by omega, by omega⟩) (fun h129 => ?_) (fun h129 => ?_)
      · skip
        refine x_aload_n 137 C dX12_behind_136 rfl rfl ?_
        refine x_mrow 140 11 C fr_X12_29 dX12_behind_137 rfl rfl hM ?_
        refine x_iload_n 141 C dX12_behind_140 rfl rfl ?_
        refine x_mldI 142 11 C dX12_behind_141 rfl rfl hM (by first | exact hIx | exact ⟨by omega, Int.lt_of_lt_of_le (b := 24) (by omega) (by decide)⟩) ?_
        (try simp only [u2r, false_and, and_false, true_and, and_true, ↓reduceIte, Nat.reduceEqDiff])
        refine x_bipush 144 C dX12_behind_142 rfl (by decide) ?_
        refine x_icmp_le 147 151 C dX12_behind_144 rfl (by decide) (by first | exact hw.2.2.1 _ _ | exact hr0 _ _ | assumption | omega | exact ⟨by omega, by omega⟩) (by first | exact hw.2.2.1 _ _ | exact hr0 _ _ | assumption | omega | exact ⟨by omega, by omega⟩) (fun h144 => ?_) (fun h144 => ?_)
        · skip
          refine x_aload_n 152 C dX12_behind_151 rfl rfl ?_
          refine x_mrow 155 11 C fr_X12_29 dX12_behind_152 rfl rfl hM ?_
          refine x_iload_n 156 C dX12_behind_155 rfl rfl ?_
          refine x_mldI 157 11 C dX12_behind_156 rfl rfl hM (by first | exact hIx | exact ⟨by omega, Int.lt_of_lt_of_le (b := 24) (by omega) (by decide)⟩) ?_
          (try simp only [u2r, false_and, and_false, true_and, and_true, ↓reduceIte, Nat.reduceEqDiff])
          refine x_if_le 160 164 C dX12_behind_157 rfl (by decide) (by first | exact hw.2.2.1 _ _ | exact hr0 _ _ | assumption | omega | exact ⟨by omega, by omega⟩) (fun h157 => ?_) (fun h157 => ?_)
          · skip
            refine x_iconst 165 C dX12_behind_164 rfl ?_
            exact hJ165 _ (by first | (simp [bI, rMany, h129, h144, h157]; done) | (simp [bI, rMany, h129, h144, h157]; omega) | (simp [bI, rMany, h129, h144, h157] at *; omega))
          · skip
            refine x_iconst 161 C dX12_behind_160 rfl ?_
            refine x_goto 165 C dX12_behind_161 (by decide) ?_
            exact hJ165 _ (by first | (simp [bI, rMany, h129, h144, h157]; done) | (simp [bI, rMany, h129, h144, h157]; omega) | (simp [bI, rMany, h129, h144, h157] at *; omega))
        · skip
          refine x_iconst 148 C dX12_behind_147 rfl ?_
          refine x_goto 165 C dX12_behind_148 (by decide) ?_
          exact hJ165 _ (by first | (simp [bI, rMany, h129, h144]; done) | (simp [bI, rMany, h129, h144]; omega) | (simp [bI, rMany, h129, h144] at *; omega))
      · skip
        refine x_iconst 133 C dX12_behind_132 rfl ?_
        refine x_goto 165 C dX12_behind_133 (by decide) ?_
        exact hJ165 _ (by first | (simp [bI, rMany, h129]; done) | (simp [bI, rMany, h129]; omega) | (simp [bI, rMany, h129] at *; omega))
  · skip
    refine x_aload_n 3 C dX12_behind_2 rfl rfl ?_
    refine x_mrow 6 10 C fr_X12_26 dX12_behind_3 rfl rfl hM ?_
    refine x_iload_n 7 C dX12_behind_6 rfl rfl ?_
    refine x_mldI 8 10 C dX12_behind_7 rfl rfl hM (by first | exact hIx | exact ⟨by omega, Int.lt_of_lt_of_le (b := 24) (by omega) (by decide)⟩) ?_
    refine x_if_le 11 121 C dX12_behind_8 rfl (by decide) (by first | exact hw.2.2.1 _ _ | exact hr0 _ _ | assumption | omega | exact ⟨by omega, by omega⟩) (fun h8 => ?_) (fun h8 => ?_)
    · skip
      refine x_less ?_ (hJ121 k ⟨by omega, by omega, by rw [rBeh, if_neg (by omega)]⟩); exact ⟨rfl, rfl, rfl, rfl, trivial⟩
    · skip
      refine x_joinv 58 (fun vJ => vJ = rDig (R 10 a.toNat)) ?_ (fun hJ58 => ?_)
      · intro vJ hJ
        subst hJ
        refine x_istore 60 C dX12_behind_58 rfl rfl rfl ?_
        refine x_iload_n 61 C dX12_behind_60 rfl rfl ?_
        refine x_if_ne 64 67 C dX12_behind_61 rfl (by decide) (by first | exact hw.2.2.1 _ _ | exact hr0 _ _ | assumption | omega | exact ⟨by omega, by omega⟩) (fun h61 => ?_) (fun h61 => ?_)
        · skip
          refine x_iload_n 68 C dX12_behind_67 rfl rfl ?_
          refine x_iload 70 C dX12_behind_68 rfl rfl ?_
          refine x_icmp_gt 73 114 C dX12_behind_70 rfl (by decide) (by first | exact hw.2.2.1 _ _ | exact hr0 _ _ | assumption | omega | exact ⟨by omega, by omega⟩) (by first | exact hw.2.2.1 _ _ | exact hr0 _ _ | assumption | omega | exact ⟨by omega, by omega⟩) (fun h70 => ?_) (fun h70 => ?_)
          · skip
            refine x_iload_n 115 C dX12_behind_114 rfl rfl ?_
            refine x_iload 117 C dX12_behind_115 rfl rfl ?_
            refine x_iconst 118 C dX12_behind_117 rfl ?_
            refine x_iadd 119 C dX12_behind_118 rfl ?_
            refine x_isub 120 C dX12_behind_119 rfl ?_
            refine x_istore_n 121 C dX12_behind_120 rfl rfl rfl ?_
            refine x_less ?_ (hJ121 (k - (rDig (R 10 a.toNat) + 1)) ⟨by omega, by omega, by rw [rBeh, if_pos (by omega), if_neg (by omega), if_neg (by omega)]⟩); exact ⟨rfl, rfl, rfl, rfl, trivial⟩
          · skip
            refine x_aload_n 74 C dX12_behind_73 rfl rfl ?_
            refine x_mrow 77 10 C fr_X12_26 dX12_behind_74 rfl rfl hM ?_
            refine x_iload_n 78 C dX12_behind_77 rfl rfl ?_
            refine x_mldI 79 10 C dX12_behind_78 rfl rfl hM (by first | exact hIx | exact ⟨by omega, Int.lt_of_lt_of_le (b := 24) (by omega) (by decide)⟩) ?_
            refine x_istore 81 C dX12_behind_79 rfl rfl rfl ?_
            refine x_iload_n 82 C dX12_behind_81 rfl rfl ?_
            refine x_istore 84 C dX12_behind_82 rfl rfl rfl ?_
            refine x_loop (α := Int × Int) (fun ⟨x, q⟩ => (rDig (R 10 a.toNat) - q).toNat) (fun ⟨x, q⟩ => 0 ≤ x ∧ x ≤ 9999 ∧ q ≤ rDig (R 10 a.toNat) ∧ 0 ≤ q ∧ rDivs (rDig (R 10 a.toNat) - q).toNat x = rDivs (rDig (R 10 a.toNat) - k).toNat (R 10 a.toNat)) (fun ⟨x, q⟩ => wR G R) (fun ⟨x, q⟩ => [some (.ref o), some (.int (i32 a)), some (.int (i32 k)), some (.int (i32 k)), some (.int (i32 (rDig (R 10 a.toNat)))), some (.int (i32 x)), some (.int (i32 q))]) (fun _ => []) (R 10 a.toNat, k) ⟨by (try dsimp only); omega, by (try dsimp only); omega, by (try dsimp only); omega, by (try dsimp only); omega, rfl⟩ rfl rfl rfl ?_
            intro aa hI ih
            obtain ⟨x, q⟩ := aa
            (try dsimp only at hI); (try dsimp only at ih); (try dsimp only)
            obtain ⟨i1, i2, i3, i4, i5⟩ := hI
            refine x_iload 86 C dX12_behind_84 rfl rfl ?_
            refine x_iload 88 C dX12_behind_86 rfl rfl ?_
            refine x_icmp_ge 91 104 C dX12_behind_88 rfl (by decide) (by first | exact hw.2.2.1 _ _ | exact hr0 _ _ | assumption | omega | exact ⟨by omega, by omega⟩) (by first | exact hw.2.2.1 _ _ | exact hr0 _ _ | assumption | omega | exact ⟨by omega, by omega⟩) (fun h88 => ?_) (fun h88 => ?_)
            · skip
              refine x_bipush 106 C dX12_behind_104 rfl (by decide) ?_
              refine x_iload 108 C dX12_behind_106 rfl rfl ?_
              refine x_bipush 110 C dX12_behind_108 rfl (by decide) ?_
              refine x_irem 111 C dX12_behind_110 rfl (by omega) ?_
              refine x_iadd 112 C dX12_behind_111 rfl ?_
              refine x_i2c 113 C dX12_behind_112 rfl (by omega) ?_
              exact x_iret C dX12_behind_113 (nar_c (by omega)) ⟨vi (by rw [rBeh, if_pos (by omega), if_neg (by omega), if_pos (by omega), ← i5, show (rDig (R 10 a.toNat) - q).toNat = 0 by omega, rDivs]), rfl⟩
            · skip
              refine x_iload 93 C dX12_behind_91 rfl rfl ?_
              refine x_bipush 95 C dX12_behind_93 rfl (by decide) ?_
              refine x_idiv 96 C dX12_behind_95 rfl (by omega) ?_
              refine x_istore 98 C dX12_behind_96 rfl rfl rfl ?_
              refine x_iinc 101 C dX12_behind_98 rfl rfl rfl rfl ?_
              refine x_goto 84 C dX12_behind_101 (by decide) ?_
              exact ih (x / 10, q + 1) ⟨by dsimp only; omega, by dsimp only; omega, by dsimp only; omega, by dsimp only; omega, by dsimp only; rw [← i5, show (rDig (R 10 a.toNat) - q).toNat = (rDig (R 10 a.toNat) - (q + 1)).toNat + 1 by omega, rDivs]⟩ (by dsimp only; omega)
        · skip
          refine x_bipush 66 C dX12_behind_64 rfl (by decide) ?_
          exact x_iret C dX12_behind_66 (nar_c (by omega)) ⟨vi (by rw [rBeh, if_pos (by omega), if_pos h61]), rfl⟩
      · skip
        refine x_aload_n 12 C dX12_behind_11 rfl rfl ?_
        refine x_mrow 15 10 C fr_X12_26 dX12_behind_12 rfl rfl hM ?_
        refine x_iload_n 16 C dX12_behind_15 rfl rfl ?_
        refine x_mldI 17 10 C dX12_behind_16 rfl rfl hM (by first | exact hIx | exact ⟨by omega, Int.lt_of_lt_of_le (b := 24) (by omega) (by decide)⟩) ?_
        refine x_sipush 20 C dX12_behind_17 rfl (by decide) ?_
        refine x_icmp_le 23 27 C dX12_behind_20 rfl (by decide) (by first | exact hw.2.2.1 _ _ | exact hr0 _ _ | assumption | omega | exact ⟨by omega, by omega⟩) (by first | exact hw.2.2.1 _ _ | exact hr0 _ _ | assumption | omega | exact ⟨by omega, by omega⟩) (fun h20 => ?_) (fun h20 => ?_)
        · skip
          refine x_aload_n 28 C dX12_behind_27 rfl rfl ?_
          refine x_mrow 31 10 C fr_X12_26 dX12_behind_28 rfl rfl hM ?_
          refine x_iload_n 32 C dX12_behind_31 rfl rfl ?_
          refine x_mldI 33 10 C dX12_behind_32 rfl rfl hM (by first | exact hIx | exact ⟨by omega, Int.lt_of_lt_of_le (b := 24) (by omega) (by decide)⟩) ?_
          refine x_bipush 35 C dX12_behind_33 rfl (by decide) ?_
          refine x_icmp_le 38 42 C dX12_behind_35 rfl (by decide) (by first | exact hw.2.2.1 _ _ | exact hr0 _ _ | assumption | omega | exact ⟨by omega, by omega⟩) (by first | exact hw.2.2.1 _ _ | exact hr0 _ _ | assumption | omega | exact ⟨by omega, by omega⟩) (fun h35 => ?_) (fun h35 => ?_)
          · skip
            refine x_aload_n 43 C dX12_behind_42 rfl rfl ?_
            refine x_mrow 46 10 C fr_X12_26 dX12_behind_43 rfl rfl hM ?_
            refine x_iload_n 47 C dX12_behind_46 rfl rfl ?_
            refine x_mldI 48 10 C dX12_behind_47 rfl rfl hM (by first | exact hIx | exact ⟨by omega, Int.lt_of_lt_of_le (b := 24) (by omega) (by decide)⟩) ?_
            refine x_bipush 50 C dX12_behind_48 rfl (by decide) ?_
            refine x_icmp_le 53 57 C dX12_behind_50 rfl (by decide) (by first | exact hw.2.2.1 _ _ | exact hr0 _ _ | assumption | omega | exact ⟨by omega, by omega⟩) (by first | exact hw.2.2.1 _ _ | exact hr0 _ _ | assumption | omega | exact ⟨by omega, by omega⟩) (fun h50 => ?_) (fun h50 => ?_)
            · skip
              refine x_iconst 58 C dX12_behind_57 rfl ?_
              exact hJ58 _ (by first | (simp [bI, rDig, h20, h35, h50]; done) | (simp [bI, rDig, h20, h35, h50]; omega) | (simp [bI, rDig, h20, h35, h50] at *; omega))
            · skip
              refine x_iconst 54 C dX12_behind_53 rfl ?_
              refine x_goto 58 C dX12_behind_54 (by decide) ?_
              exact hJ58 _ (by first | (simp [bI, rDig, h20, h35, h50]; done) | (simp [bI, rDig, h20, h35, h50]; omega) | (simp [bI, rDig, h20, h35, h50] at *; omega))
          · skip
            refine x_iconst 39 C dX12_behind_38 rfl ?_
            refine x_goto 58 C dX12_behind_39 (by decide) ?_
            exact hJ58 _ (by first | (simp [bI, rDig, h20, h35]; done) | (simp [bI, rDig, h20, h35]; omega) | (simp [bI, rDig, h20, h35] at *; omega))
        · skip
          refine x_iconst 24 C dX12_behind_23 rfl ?_
          refine x_goto 58 C dX12_behind_24 (by decide) ?_
          exact hJ58 _ (by first | (simp [bI, rDig, h20]; done) | (simp [bI, rDig, h20]; omega) | (simp [bI, rDig, h20] at *; omega))
