/-! rows laid by program (wip/tools/gen.py) -/
set_option maxHeartbeats 4000000 in
set_option maxRecDepth 100000 in
theorem c_X12_sign {E : EV} {l : Launch} {G : GT} {R : RT} {o : Nat} {a k : Int} (hM : RM G o) (hH : RH R) (hl : RHl R) (hA : RA R) (hD : RAd R) (h1 : 0 ≤ a ∧ a < R 7 0) (h2 : InR k) : MT E l yX12_sign cX12_sign 6 (some .char) 1 26 0 0 [.ref o, .int (i32 a), .int (i32 k)] (wR G R) (pD (some (.int (i32 (rSign R a k)))) (wR G (R))) := by
  refine mt_of (own := RX12) (L := [some (.ref o), some (.int (i32 a)), some (.int (i32 k)), none, none, none]) (by decide +kernel) rfl (Nat.le_of_ble_eq_true rfl) (List.forall_mem_cons.mpr ⟨rfl, (List.forall_mem_cons.mpr ⟨rfl, (List.forall_mem_cons.mpr ⟨rfl, (fun _ h => absurd h List.not_mem_nil)⟩)⟩)⟩) rfl ?_
  intro p e s m args below meth c C hin
  refine x_wf (fun hw => ?_)
  have hr0 : ∀ k j, InR (R k j) := hw.2.2.1
  have hz0 : ∀ k j, mZ k = true → R k j = 0 ∨ R k j = 1 := hw.2.2.2.2.1
  have hh := hA.1
  have hh2 := hA.2
  have hh0 := hH.1
  obtain ⟨d1, d2, d3, d4, -⟩ := hD a.toNat (by omega)
  refine x_iload_n 1 C dX12_sign_0 rfl rfl ?_
  refine x_if_ge 4 7 C dX12_sign_1 rfl (by decide) (by first | exact hw.2.2.1 _ _ | exact hr0 _ _ | assumption | omega | exact ⟨by omega, by omega⟩) (fun h1 => ?_) (fun h1 => ?_)
  · skip
    refine x_join (α := Int) 23 (fun v => v = (if R 8 a.toNat = 1 then 5 else 4) ∧ (v = 4 ∨ v = 5)) (fun v => wR G R) (fun v => [some (.ref o), some (.int (i32 a)), some (.int (i32 k)), some (.int (i32 v)), none, none]) (fun v => []) ?_ (fun hJ23 => ?_)
    · intro aa hJ
      obtain ⟨v, rfl⟩ := (⟨aa, rfl⟩ : ∃ z, z = aa)
      (try dsimp only at hJ); (try dsimp only)
      obtain ⟨v1, v2⟩ := hJ
      refine x_iload_n 24 C dX12_sign_23 rfl rfl ?_
      refine x_iconst 25 C dX12_sign_24 rfl ?_
      refine x_icmp_ge 28 50 C dX12_sign_25 rfl (by decide) (by first | exact hw.2.2.1 _ _ | exact hr0 _ _ | assumption | omega | exact ⟨by omega, by omega⟩) (by first | exact hw.2.2.1 _ _ | exact hr0 _ _ | assumption | omega | exact ⟨by omega, by omega⟩) (fun h25 => ?_) (fun h25 => ?_)
      · skip
        refine x_iload_n 51 C dX12_sign_50 rfl rfl ?_
        refine x_iload_n 52 C dX12_sign_51 rfl rfl ?_
        refine x_icmp_ge 55 58 C dX12_sign_52 rfl (by decide) (by first | exact hw.2.2.1 _ _ | exact hr0 _ _ | assumption | omega | exact ⟨by omega, by omega⟩) (by first | exact hw.2.2.1 _ _ | exact hr0 _ _ | assumption | omega | exact ⟨by omega, by omega⟩) (fun h52 => ?_) (fun h52 => ?_)
        · skip
          refine x_iload_n 59 C dX12_sign_58 rfl rfl ?_
          refine x_iload_n 60 C dX12_sign_59 rfl rfl ?_
          refine x_iconst 61 C dX12_sign_60 rfl ?_
          refine x_iadd 62 C dX12_sign_61 rfl ?_
          refine x_icmp_ge 65 78 C dX12_sign_62 rfl (by decide) (by first | exact hw.2.2.1 _ _ | exact hr0 _ _ | assumption | omega | exact ⟨by omega, by omega⟩) (by first | exact hw.2.2.1 _ _ | exact hr0 _ _ | assumption | omega | exact ⟨by omega, by omega⟩) (fun h62 => ?_) (fun h62 => ?_)
          · skip
            refine x_iload_n 79 C dX12_sign_78 rfl rfl ?_
            refine x_iload_n 80 C dX12_sign_79 rfl rfl ?_
            refine x_isub 81 C dX12_sign_80 rfl ?_
            refine x_iconst 82 C dX12_sign_81 rfl ?_
            refine x_isub 83 C dX12_sign_82 rfl ?_
            refine x_istore 85 C dX12_sign_83 rfl rfl rfl ?_
            refine x_aload_n 86 C dX12_sign_85 rfl rfl ?_
            refine x_mrow 89 9 C fr_X12_23 dX12_sign_86 rfl rfl hM ?_
            refine x_iload_n 90 C dX12_sign_89 rfl rfl ?_
            refine x_mldI 91 9 C dX12_sign_90 rfl rfl hM (by first | exact hIx | exact ⟨by omega, Int.lt_of_lt_of_le (b := 24) (by omega) (by decide)⟩) ?_
            (try simp only [u2r, false_and, and_false, true_and, and_true, ↓reduceIte, Nat.reduceEqDiff])
            refine x_istore 93 C dX12_sign_91 rfl rfl rfl ?_
            refine x_loop (α := Int × Int) (fun ⟨x, q⟩ => (q + 1).toNat) (fun ⟨x, q⟩ => 0 ≤ x ∧ x ≤ 2147483647 ∧ -1 ≤ q ∧ q < R 3 0 ∧ rSignF R a 17 q x = rSign R a k) (fun ⟨x, q⟩ => wR G R) (fun ⟨x, q⟩ => [some (.ref o), some (.int (i32 a)), some (.int (i32 k)), some (.int (i32 v)), some (.int (i32 x)), some (.int (i32 q))]) (fun _ => []) (k - v - 3, R 9 a.toNat) ⟨by (try dsimp only); omega, by (try dsimp only); omega, by (try dsimp only); omega, by (try dsimp only); omega, by (try dsimp only); rw [rSign, if_neg (by omega), if_neg (by omega), ← v1, if_neg (by omega), if_neg (by omega)]⟩ rfl rfl rfl ?_
            intro aa hI ih
            obtain ⟨x, q⟩ := aa
            (try dsimp only at hI); (try dsimp only at ih); (try dsimp only)
            obtain ⟨i1, i2, i3, i4, i5⟩ := hI
            have hu := hH.2 q.toNat
            have hlq := hl q.toNat
            have hlt : rLetters (R 5 q.toNat) = 1 ∨ rLetters (R 5 q.toNat) = 2 := by unfold rLetters; split <;> omega
            refine x_iload 95 C dX12_sign_93 rfl rfl ?_
            refine x_iconst 96 C dX12_sign_95 rfl ?_
            refine x_icmp_eq 99 158 C dX12_sign_96 rfl (by decide) (by first | exact hw.2.2.1 _ _ | exact hr0 _ _ | assumption | omega | exact ⟨by omega, by omega⟩) (by first | exact hw.2.2.1 _ _ | exact hr0 _ _ | assumption | omega | exact ⟨by omega, by omega⟩) (fun h96 => ?_) (fun h96 => ?_)
            · skip
              refine x_iload 160 C dX12_sign_158 rfl rfl ?_
              refine x_iconst 161 C dX12_sign_160 rfl ?_
              refine x_icmp_eq 164 179 C dX12_sign_161 rfl (by decide) (by first | exact hw.2.2.1 _ _ | exact hr0 _ _ | assumption | omega | exact ⟨by omega, by omega⟩) (by first | exact hw.2.2.1 _ _ | exact hr0 _ _ | assumption | omega | exact ⟨by omega, by omega⟩) (fun h161 => ?_) (fun h161 => ?_)
              · skip
                refine x_aload_n 180 C dX12_sign_179 rfl rfl ?_
                refine x_iload_n 181 C dX12_sign_180 rfl rfl ?_
                refine x_iload 183 C dX12_sign_181 rfl rfl ?_
                refine x_Vr (As := [_, _]) 186 C vw_X12_219 iw_X12_behind sw_X12_behind (c_X12_behind hM hA hD (by omega) ⟨by omega, by omega⟩) dX12_sign_183 rfl rfl rfl rfl rfl rfl hM.1 ⟨Nat.le_of_ble_eq_true rfl, Nat.le_of_ble_eq_true rfl⟩ (Nat.le_of_ble_eq_true rfl) ?_
                exact x_iret C dX12_sign_186 (nar_c (by first | exact rBeh_in | exact rLetter_in (hl q.toNat (by omega)))) ⟨vi (by rw [← i5, rSignF_stop (by first | exact fun z => z.1 h96 | exact fun z => absurd z.2 (by omega))]; first | (rw [if_pos h161]; done) | (rw [if_neg h161]; done)), rfl⟩
              · skip
                refine x_aload_n 165 C dX12_sign_164 rfl rfl ?_
                refine x_mrow 168 5 C fr_X12_13 dX12_sign_165 rfl rfl hM ?_
                refine x_iload 170 C dX12_sign_168 rfl rfl ?_
                refine x_mldI 171 5 C dX12_sign_170 rfl rfl hM (by first | exact hIx | exact ⟨by omega, Int.lt_of_lt_of_le (b := 16) (by omega) (by decide)⟩) ?_
                (try simp only [u2r, false_and, and_false, true_and, and_true, ↓reduceIte, Nat.reduceEqDiff])
                refine x_iload 173 C dX12_sign_171 rfl rfl ?_
                refine x_Sr (As := [_, _]) 176 C vw_X12_215 tw_X12_letter (c_X12_letter (hl q.toNat (by omega)) ⟨by omega, by omega⟩) dX12_sign_173 rfl rfl rfl ⟨Nat.le_of_ble_eq_true rfl, Nat.le_of_ble_eq_true rfl⟩ (Nat.le_of_ble_eq_true rfl) ?_
                refine x_goto 186 C dX12_sign_176 (by decide) ?_
                exact x_iret C dX12_sign_186 (nar_c (by first | exact rBeh_in | exact rLetter_in (hl q.toNat (by omega)))) ⟨vi (by rw [← i5, rSignF_stop (by first | exact fun z => z.1 h96 | exact fun z => absurd z.2 (by omega))]; first | (rw [if_pos h161]; done) | (rw [if_neg h161]; done)), rfl⟩
            · skip
              refine x_iload 101 C dX12_sign_99 rfl rfl ?_
              refine x_aload_n 102 C dX12_sign_101 rfl rfl ?_
              refine x_mrow 105 5 C fr_X12_13 dX12_sign_102 rfl rfl hM ?_
              refine x_iload 107 C dX12_sign_105 rfl rfl ?_
              refine x_mldI 108 5 C dX12_sign_107 rfl rfl hM (by first | exact hIx | exact ⟨by omega, Int.lt_of_lt_of_le (b := 16) (by omega) (by decide)⟩) ?_
              (try simp only [u2r, false_and, and_false, true_and, and_true, ↓reduceIte, Nat.reduceEqDiff])
              refine x_Sr (As := [_]) 111 C vw_X12_212 tw_X12_letters (c_X12_letters (by first | exact hr0 _ _ | assumption | omega)) dX12_sign_108 rfl rfl rfl ⟨Nat.le_of_ble_eq_true rfl, Nat.le_of_ble_eq_true rfl⟩ (Nat.le_of_ble_eq_true rfl) ?_
              refine x_icmp_lt 114 158 C dX12_sign_111 rfl (by decide) (by first | exact hw.2.2.1 _ _ | exact hr0 _ _ | assumption | omega | exact ⟨by omega, by omega⟩) (by first | exact hw.2.2.1 _ _ | exact hr0 _ _ | assumption | omega | exact ⟨by omega, by omega⟩) (fun h111 => ?_) (fun h111 => ?_)
              · skip
                refine x_iload 160 C dX12_sign_158 rfl rfl ?_
                refine x_iconst 161 C dX12_sign_160 rfl ?_
                refine x_icmp_eq 164 179 C dX12_sign_161 rfl (by decide) (by first | exact hw.2.2.1 _ _ | exact hr0 _ _ | assumption | omega | exact ⟨by omega, by omega⟩) (by first | exact hw.2.2.1 _ _ | exact hr0 _ _ | assumption | omega | exact ⟨by omega, by omega⟩) (fun h161 => ?_) (fun h161 => ?_)
                · skip
                  refine x_aload_n 180 C dX12_sign_179 rfl rfl ?_
                  refine x_iload_n 181 C dX12_sign_180 rfl rfl ?_
                  refine x_iload 183 C dX12_sign_181 rfl rfl ?_
                  refine x_Vr (As := [_, _]) 186 C vw_X12_219 iw_X12_behind sw_X12_behind (c_X12_behind hM hA hD (by omega) ⟨by omega, by omega⟩) dX12_sign_183 rfl rfl rfl rfl rfl rfl hM.1 ⟨Nat.le_of_ble_eq_true rfl, Nat.le_of_ble_eq_true rfl⟩ (Nat.le_of_ble_eq_true rfl) ?_
                  exact x_iret C dX12_sign_186 (nar_c (by first | exact rBeh_in | exact rLetter_in (hl q.toNat (by omega)))) ⟨vi (by rw [← i5, rSignF_stop (by first | exact fun z => z.1 h96 | exact fun z => absurd z.2 (by omega))]; first | (rw [if_pos h161]; done) | (rw [if_neg h161]; done)), rfl⟩
                · skip
                  refine x_aload_n 165 C dX12_sign_164 rfl rfl ?_
                  refine x_mrow 168 5 C fr_X12_13 dX12_sign_165 rfl rfl hM ?_
                  refine x_iload 170 C dX12_sign_168 rfl rfl ?_
                  refine x_mldI 171 5 C dX12_sign_170 rfl rfl hM (by first | exact hIx | exact ⟨by omega, Int.lt_of_lt_of_le (b := 16) (by omega) (by decide)⟩) ?_
                  (try simp only [u2r, false_and, and_false, true_and, and_true, ↓reduceIte, Nat.reduceEqDiff])
                  refine x_iload 173 C dX12_sign_171 rfl rfl ?_
                  refine x_Sr (As := [_, _]) 176 C vw_X12_215 tw_X12_letter (c_X12_letter (hl q.toNat (by omega)) ⟨by omega, by omega⟩) dX12_sign_173 rfl rfl rfl ⟨Nat.le_of_ble_eq_true rfl, Nat.le_of_ble_eq_true rfl⟩ (Nat.le_of_ble_eq_true rfl) ?_
                  refine x_goto 186 C dX12_sign_176 (by decide) ?_
                  exact x_iret C dX12_sign_186 (nar_c (by first | exact rBeh_in | exact rLetter_in (hl q.toNat (by omega)))) ⟨vi (by rw [← i5, rSignF_stop (by first | exact fun z => z.1 h96 | exact fun z => absurd z.2 (by omega))]; first | (rw [if_pos h161]; done) | (rw [if_neg h161]; done)), rfl⟩
              · skip
                refine x_iload 116 C dX12_sign_114 rfl rfl ?_
                refine x_aload_n 117 C dX12_sign_116 rfl rfl ?_
                refine x_mrow 120 5 C fr_X12_13 dX12_sign_117 rfl rfl hM ?_
                refine x_iload 122 C dX12_sign_120 rfl rfl ?_
                refine x_mldI 123 5 C dX12_sign_122 rfl rfl hM (by first | exact hIx | exact ⟨by omega, Int.lt_of_lt_of_le (b := 16) (by omega) (by decide)⟩) ?_
                (try simp only [u2r, false_and, and_false, true_and, and_true, ↓reduceIte, Nat.reduceEqDiff])
                refine x_Sr (As := [_]) 126 C vw_X12_212 tw_X12_letters (c_X12_letters (by first | exact hr0 _ _ | assumption | omega)) dX12_sign_123 rfl rfl rfl ⟨Nat.le_of_ble_eq_true rfl, Nat.le_of_ble_eq_true rfl⟩ (Nat.le_of_ble_eq_true rfl) ?_
                refine x_isub 127 C dX12_sign_126 rfl ?_
                refine x_istore 129 C dX12_sign_127 rfl rfl rfl ?_
                refine x_aload_n 130 C dX12_sign_129 rfl rfl ?_
                refine x_mrow 133 4 C fr_X12_7 dX12_sign_130 rfl rfl hM ?_
                refine x_iload 135 C dX12_sign_133 rfl rfl ?_
                refine x_mldI 136 4 C dX12_sign_135 rfl rfl hM (by first | exact hIx | exact ⟨by omega, Int.lt_of_lt_of_le (b := 16) (by omega) (by decide)⟩) ?_
                (try simp only [u2r, false_and, and_false, true_and, and_true, ↓reduceIte, Nat.reduceEqDiff])
                refine x_istore 138 C dX12_sign_136 rfl rfl rfl ?_
                refine x_iload 140 C dX12_sign_138 rfl rfl ?_
                refine x_iconst 141 C dX12_sign_140 rfl ?_
                refine x_icmp_eq 144 93 C dX12_sign_141 rfl (by decide) (by first | exact hw.2.2.1 _ _ | exact hr0 _ _ | assumption | omega | exact ⟨by omega, by omega⟩) (by first | exact hw.2.2.1 _ _ | exact hr0 _ _ | assumption | omega | exact ⟨by omega, by omega⟩) (fun h141 => ?_) (fun h141 => ?_)
                · skip
                  have hc : ¬ q = -1 ∧ rLetters (R 5 q.toNat) ≤ x := ⟨h96, by omega⟩
                  have hs := rSignF_step hH (a := a) i3 i4 hc
                  first | exact ih (x - rLetters (R 5 q.toNat), R 4 q.toNat) ⟨by dsimp only; omega, by dsimp only; omega, by dsimp only; omega, by dsimp only; omega, by dsimp only; rw [← i5, hs, if_pos h141]⟩ (by dsimp only; omega) | exact ih (x - rLetters (R 5 q.toNat) + -1, R 4 q.toNat) ⟨by dsimp only; omega, by dsimp only; omega, by dsimp only; omega, by dsimp only; omega, by dsimp only; rw [← i5, hs, if_neg h141, if_neg h146]; rfl⟩ (by dsimp only; omega)
                · skip
                  refine x_iload 146 C dX12_sign_144 rfl rfl ?_
                  refine x_if_ne 149 152 C dX12_sign_146 rfl (by decide) (by first | exact hw.2.2.1 _ _ | exact hr0 _ _ | assumption | omega | exact ⟨by omega, by omega⟩) (fun h146 => ?_) (fun h146 => ?_)
                  · skip
                    refine x_iinc 155 C dX12_sign_152 rfl rfl rfl rfl ?_
                    refine x_goto 93 C dX12_sign_155 (by decide) ?_
                    have hc : ¬ q = -1 ∧ rLetters (R 5 q.toNat) ≤ x := ⟨h96, by omega⟩
                    have hs := rSignF_step hH (a := a) i3 i4 hc
                    first | exact ih (x - rLetters (R 5 q.toNat), R 4 q.toNat) ⟨by dsimp only; omega, by dsimp only; omega, by dsimp only; omega, by dsimp only; omega, by dsimp only; rw [← i5, hs, if_pos h141]⟩ (by dsimp only; omega) | exact ih (x - rLetters (R 5 q.toNat) + -1, R 4 q.toNat) ⟨by dsimp only; omega, by dsimp only; omega, by dsimp only; omega, by dsimp only; omega, by dsimp only; rw [← i5, hs, if_neg h141, if_neg h146]; rfl⟩ (by dsimp only; omega)
                  · skip
                    refine x_bipush 151 C dX12_sign_149 rfl (by decide) ?_
                    exact x_iret C dX12_sign_151 (nar_c (by omega)) ⟨vi (by rw [← i5, rSignF_step hH i3 i4 ⟨h96, by omega⟩, if_neg h141, if_pos h146]), rfl⟩
          · skip
            refine x_iload_n 66 C dX12_sign_65 rfl rfl ?_
            refine x_iload_n 67 C dX12_sign_66 rfl rfl ?_
            refine x_icmp_ne 70 75 C dX12_sign_67 rfl (by decide) (by first | exact hw.2.2.1 _ _ | exact hr0 _ _ | assumption | omega | exact ⟨by omega, by omega⟩) (by first | exact hw.2.2.1 _ _ | exact hr0 _ _ | assumption | omega | exact ⟨by omega, by omega⟩) (fun h67 => ?_) (fun h67 => ?_)
            · skip
              refine x_bipush 77 C dX12_sign_75 rfl (by decide) ?_
              exact x_iret C dX12_sign_77 (nar_c (by omega)) ⟨vi (by rw [rSign, if_neg (by omega), if_neg (by omega), ← v1, if_neg (by omega), if_pos (by omega)]; first | (rw [if_pos h67]; done) | (rw [if_neg h67]; done)), rfl⟩
            · skip
              refine x_bipush 72 C dX12_sign_70 rfl (by decide) ?_
              refine x_goto 77 C dX12_sign_72 (by decide) ?_
              exact x_iret C dX12_sign_77 (nar_c (by omega)) ⟨vi (by rw [rSign, if_neg (by omega), if_neg (by omega), ← v1, if_neg (by omega), if_pos (by omega)]; first | (rw [if_pos h67]; done) | (rw [if_neg h67]; done)), rfl⟩
        · skip
          refine x_bipush 57 C dX12_sign_55 rfl (by decide) ?_
          exact x_iret C dX12_sign_57 (nar_c (by omega)) ⟨vi (by rw [rSign, if_neg (by omega), if_neg (by omega), ← v1, if_pos (by omega)]), rfl⟩
      · skip
        refine x_iload_n 29 C dX12_sign_28 rfl rfl ?_
        refine x_if_ne 32 37 C dX12_sign_29 rfl (by decide) (by first | exact hw.2.2.1 _ _ | exact hr0 _ _ | assumption | omega | exact ⟨by omega, by omega⟩) (fun h29 => ?_) (fun h29 => ?_)
        · skip
          refine x_iload_n 38 C dX12_sign_37 rfl rfl ?_
          refine x_iconst 39 C dX12_sign_38 rfl ?_
          refine x_icmp_ne 42 47 C dX12_sign_39 rfl (by decide) (by first | exact hw.2.2.1 _ _ | exact hr0 _ _ | assumption | omega | exact ⟨by omega, by omega⟩) (by first | exact hw.2.2.1 _ _ | exact hr0 _ _ | assumption | omega | exact ⟨by omega, by omega⟩) (fun h39 => ?_) (fun h39 => ?_)
          · skip
            refine x_bipush 49 C dX12_sign_47 rfl (by decide) ?_
            exact x_iret C dX12_sign_49 (nar_c (by omega)) ⟨vi (by rw [rSign, if_neg (by omega), if_pos (by omega)]; first | (rw [if_pos h29]; done) | (rw [if_neg h29, if_pos h39]; done) | (rw [if_neg h29, if_neg h39]; done)), rfl⟩
          · skip
            refine x_bipush 44 C dX12_sign_42 rfl (by decide) ?_
            refine x_goto 49 C dX12_sign_44 (by decide) ?_
            exact x_iret C dX12_sign_49 (nar_c (by omega)) ⟨vi (by rw [rSign, if_neg (by omega), if_pos (by omega)]; first | (rw [if_pos h29]; done) | (rw [if_neg h29, if_pos h39]; done) | (rw [if_neg h29, if_neg h39]; done)), rfl⟩
        · skip
          refine x_bipush 34 C dX12_sign_32 rfl (by decide) ?_
          refine x_goto 49 C dX12_sign_34 (by decide) ?_
          exact x_iret C dX12_sign_49 (nar_c (by omega)) ⟨vi (by rw [rSign, if_neg (by omega), if_pos (by omega)]; first | (rw [if_pos h29]; done) | (rw [if_neg h29, if_pos h39]; done) | (rw [if_neg h29, if_neg h39]; done)), rfl⟩
    · skip
      refine x_aload_n 8 C dX12_sign_7 rfl rfl ?_
      refine x_mrow 11 8 C fr_X12_20 dX12_sign_8 rfl rfl hM ?_
      refine x_iload_n 12 C dX12_sign_11 rfl rfl ?_
      refine x_mldI 13 8 C dX12_sign_12 rfl rfl hM (by first | exact hIx | exact ⟨by omega, Int.lt_of_lt_of_le (b := 24) (by omega) (by decide)⟩) ?_
      refine x_iconst 14 C dX12_sign_13 rfl ?_
      refine x_icmp_ne 17 21 C dX12_sign_14 rfl (by decide) (by first | exact hw.2.2.1 _ _ | exact hr0 _ _ | assumption | omega | exact ⟨by omega, by omega⟩) (by first | exact hw.2.2.1 _ _ | exact hr0 _ _ | assumption | omega | exact ⟨by omega, by omega⟩) (fun h14 => ?_) (fun h14 => ?_)
      · skip
        refine x_iconst 22 C dX12_sign_21 rfl ?_
        refine x_istore_n 23 C dX12_sign_22 rfl rfl rfl ?_
        exact hJ23 _ ⟨by simp [bI, h14], by omega⟩
      · skip
        refine x_iconst 18 C dX12_sign_17 rfl ?_
        refine x_goto 22 C dX12_sign_18 (by decide) ?_
        refine x_istore_n 23 C dX12_sign_22 rfl rfl rfl ?_
        exact hJ23 _ ⟨by simp [bI, h14], by omega⟩
  · skip
    refine x_bipush 6 C dX12_sign_4 rfl (by decide) ?_
    exact x_iret C dX12_sign_6 (nar_c (by omega)) ⟨vi (by rw [rSign, if_pos (by omega)]), rfl⟩
