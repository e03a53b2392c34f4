/-! rows laid by program (wip/tools/gen.py) -/
set_option maxHeartbeats 1000000 in
set_option maxRecDepth 100000 in
theorem c_X12_resolved {E : EV} {l : Launch} {G : GT} {R : RT} {o : Nat} {a r : Int} (hM : RM G o) (hA : RA R) (hD : RAd R) (h1 : 0 ≤ a ∧ a < R 7 0) (h2 : rIsRef r = true) : MT E l yX12_resolved cX12_resolved 8 (some .int) 0 0 0 0 [.ref o, .int (i32 a), .int (i32 r)] (wR G R) (pD (some (.int (i32 (rRsd R a r)))) (wR G (rRsdR R a r))) := by
  refine mt_of (own := RX12) (L := [some (.ref o), some (.int (i32 a)), some (.int (i32 r)), none, none, none, none, none]) (by decide +kernel) rfl (Nat.le_of_ble_eq_true rfl) (List.forall_mem_cons.mpr ⟨rfl, (List.forall_mem_cons.mpr ⟨rfl, (List.forall_mem_cons.mpr ⟨rfl, (fun _ h => absurd h List.not_mem_nil)⟩)⟩)⟩) rfl ?_
  intro p e s m args below meth c C hin
  refine x_wf (fun hw => ?_)
  have hr0 : ∀ k j, InR (R k j) := hw.2.2.1
  have hz0 : ∀ k j, mZ k = true → R k j = 0 ∨ R k j = 1 := hw.2.2.2.2.1
  have hh := hA.1
  have hh2 := hA.2
  have hr := rIsRef_in h2
  obtain ⟨d1, d2, d3, d4, -⟩ := hD a.toNat (by omega)
  refine x_iconst 1 C dX12_resolved_0 rfl ?_
  refine x_istore_n 2 C dX12_resolved_1 rfl rfl rfl ?_
  refine x_loop (α := Int) (fun p => (30000 - p).toNat) (fun p => (p = 1 ∨ p = 10 ∨ p = 100 ∨ p = 1000 ∨ p = 10000) ∧ p ≤ r) (fun p => wR G R) (fun p => [some (.ref o), some (.int (i32 a)), some (.int (i32 r)), some (.int (i32 p)), none, none, none, none]) (fun _ => []) 1 ⟨Or.inl rfl, by omega⟩ rfl rfl rfl ?_
  intro aa hI ih
  obtain ⟨p, rfl⟩ := (⟨aa, rfl⟩ : ∃ z, z = aa)
  (try dsimp only at hI); (try dsimp only at ih); (try dsimp only)
  obtain ⟨i1, i2⟩ := hI
  have hq := rQuo (x := r) (k := p) (by omega) (by omega)
  refine x_iload_n 3 C dX12_resolved_2 rfl rfl ?_
  refine x_iload_n 4 C dX12_resolved_3 rfl rfl ?_
  refine x_idiv 5 C dX12_resolved_4 rfl (by omega) ?_
  refine x_bipush 7 C dX12_resolved_5 rfl (by decide) ?_
  refine x_icmp_le 10 18 C dX12_resolved_7 rfl (by decide) (by first | exact hw.2.2.1 _ _ | exact hw.2.2.1 _ _ | exact hr0 _ _ | assumption | omega | exact ⟨by omega, by omega⟩) (by first | exact hw.2.2.1 _ _ | exact hw.2.2.1 _ _ | exact hr0 _ _ | assumption | omega | exact ⟨by omega, by omega⟩) (fun h7 => ?_) (fun h7 => ?_)
  · skip
    have hpw : p = rPw r := by (unfold rPw; rcases i1 with h | h | h | h | h <;> subst h <;> (repeat (first | omega | split)))
    refine x_join (α := RT × Int × Option Value × Option Value × Option Value) 101 (fun ⟨S, n, x5, x6, x7⟩ => (S, n) = rZ0 R a r) (fun ⟨S, n, x5, x6, x7⟩ => wR G S) (fun ⟨S, n, x5, x6, x7⟩ => [some (.ref o), some (.int (i32 a)), some (.int (i32 r)), some (.int (i32 p)), some (.int (i32 n)), x5, x6, x7]) (fun ⟨S, n, x5, x6, x7⟩ => []) ?_ (fun hJ101 => ?_)
    · intro aa hJ
      obtain ⟨S, n, x5, x6, x7⟩ := aa
      (try dsimp only at hJ); (try dsimp only)
      refine x_wf (fun hw => ?_)
      refine x_iload_n 102 C dX12_resolved_101 rfl rfl ?_
      refine x_bipush 104 C dX12_resolved_102 rfl (by decide) ?_
      refine x_idiv 105 C dX12_resolved_104 rfl (by omega) ?_
      rw [show p / 10 = rKk (rPm r) by rw [hpw, rKk_pm]]
      refine x_istore 107 C dX12_resolved_105 rfl rfl rfl ?_
      refine x_loop (α := Nat × Int × RT × Option Value) (fun ⟨m, n, S, x6⟩ => m) (fun ⟨m, n, S, x6⟩ => m ≤ 4 ∧ 0 ≤ n ∧ n + m ≤ 6 ∧ rSeg S n ∧ rZ3 m r (S, n) = rZ R a r) (fun ⟨m, n, S, x6⟩ => wR G S) (fun ⟨m, n, S, x6⟩ => [some (.ref o), some (.int (i32 a)), some (.int (i32 r)), some (.int (i32 p)), some (.int (i32 n)), some (.int (i32 (rKk m))), x6, x7]) (fun _ => []) (rPm r, n, S, x6) ⟨rPm_in r, by (try dsimp only); have := (rZ0_in (R := R) (a := a) (r := r)).2.1; rw [← hJ] at this; exact this, by (try dsimp only); have := (rZ0_in (R := R) (a := a) (r := r)).2.2.1; rw [← hJ] at this; have := rPm_in r; (try dsimp only at *); omega, by (try dsimp only); have := (rZ0_in (R := R) (a := a) (r := r)).1; rw [← hJ] at this; exact this, by (try dsimp only); rw [hJ]; rfl⟩ rfl rfl rfl ?_
      intro aa hI ih
      obtain ⟨m, n, S, x6⟩ := aa
      (try dsimp only at hI); (try dsimp only at ih); (try dsimp only)
      obtain ⟨i1, i2, i3, i4, i5⟩ := hI
      have hk := rKk_in m
      have hkp := rKk_pos (m := m)
      refine x_iload 109 C dX12_resolved_107 rfl rfl ?_
      refine x_if_le 112 159 C dX12_resolved_109 rfl (by decide) (by first | exact hw.2.2.1 _ _ | exact hw.2.2.1 _ _ | exact hr0 _ _ | assumption | omega | exact ⟨by omega, by omega⟩) (fun h109 => ?_) (fun h109 => ?_)
      · skip
        refine x_iconst 160 C dX12_resolved_159 rfl ?_
        refine x_istore 162 C dX12_resolved_160 rfl rfl rfl ?_
        refine x_iconst 163 C dX12_resolved_162 rfl ?_
        refine x_istore 165 C dX12_resolved_163 rfl rfl rfl ?_
        refine x_loop (α := Int) (fun q => (n - q).toNat) (fun q => 0 ≤ q ∧ q ≤ n ∧ (q = 0 ∨ n < 4)) (fun q => wR G S) (fun q => [some (.ref o), some (.int (i32 a)), some (.int (i32 r)), some (.int (i32 p)), some (.int (i32 n)), some (.int (i32 (rWay S q))), some (.int (i32 q)), x7]) (fun _ => []) 0 ⟨by omega, by omega, Or.inl rfl⟩ rfl rfl rfl ?_
        intro aa hI ih
        obtain ⟨q, rfl⟩ := (⟨aa, rfl⟩ : ∃ z, z = aa)
        (try dsimp only at hI); (try dsimp only at ih); (try dsimp only)
        obtain ⟨j1, j2, j3⟩ := hI
        have hwi := rWay_in i4 j2 (by omega)
        refine x_iload 167 C dX12_resolved_165 rfl rfl ?_
        refine x_iload 169 C dX12_resolved_167 rfl rfl ?_
        refine x_icmp_ge 172 199 C dX12_resolved_169 rfl (by decide) (by first | exact hw.2.2.1 _ _ | exact hw.2.2.1 _ _ | exact hr0 _ _ | assumption | omega | exact ⟨by omega, by omega⟩) (by first | exact hw.2.2.1 _ _ | exact hw.2.2.1 _ _ | exact hr0 _ _ | assumption | omega | exact ⟨by omega, by omega⟩) (fun h169 => ?_) (fun h169 => ?_)
        · skip
          refine x_iload 201 C dX12_resolved_199 rfl rfl ?_
          refine x_iconst 202 C dX12_resolved_201 rfl ?_
          refine x_icmp_le 205 209 C dX12_resolved_202 rfl (by decide) (by first | exact hw.2.2.1 _ _ | exact hw.2.2.1 _ _ | exact hr0 _ _ | assumption | omega | exact ⟨by omega, by omega⟩) (by first | exact hw.2.2.1 _ _ | exact hw.2.2.1 _ _ | exact hr0 _ _ | assumption | omega | exact ⟨by omega, by omega⟩) (fun h202 => ?_) (fun h202 => ?_)
          · skip
            refine x_iload 211 C dX12_resolved_209 rfl rfl ?_
            exact x_iret C dX12_resolved_211 rfl ⟨vi (by first | (rw [rRsd, ← i5, show m = 0 by omega]; show -1 = if 3 < n then -1 else _; rw [if_pos (by omega)]; done) | (rw [rRsd, ← i5, show m = 0 by omega]; show _ = if 3 < n then -1 else rWay S n; rw [if_neg (by omega), show q = n by omega]; done)), by rw [rRsdR, ← i5, show m = 0 by omega]; rfl⟩
          · skip
            refine x_iconst 206 C dX12_resolved_205 rfl ?_
            refine x_goto 211 C dX12_resolved_206 (by decide) ?_
            exact x_iret C dX12_resolved_211 rfl ⟨vi (by first | (rw [rRsd, ← i5, show m = 0 by omega]; show -1 = if 3 < n then -1 else _; rw [if_pos (by omega)]; done) | (rw [rRsd, ← i5, show m = 0 by omega]; show _ = if 3 < n then -1 else rWay S n; rw [if_neg (by omega), show q = n by omega]; done)), by rw [rRsdR, ← i5, show m = 0 by omega]; rfl⟩
        · skip
          refine x_iload 174 C dX12_resolved_172 rfl rfl ?_
          refine x_iconst 175 C dX12_resolved_174 rfl ?_
          refine x_icmp_ge 178 199 C dX12_resolved_175 rfl (by decide) (by first | exact hw.2.2.1 _ _ | exact hw.2.2.1 _ _ | exact hr0 _ _ | assumption | omega | exact ⟨by omega, by omega⟩) (by first | exact hw.2.2.1 _ _ | exact hw.2.2.1 _ _ | exact hr0 _ _ | assumption | omega | exact ⟨by omega, by omega⟩) (fun h175 => ?_) (fun h175 => ?_)
          · skip
            refine x_iload 201 C dX12_resolved_199 rfl rfl ?_
            refine x_iconst 202 C dX12_resolved_201 rfl ?_
            refine x_icmp_le 205 209 C dX12_resolved_202 rfl (by decide) (by first | exact hw.2.2.1 _ _ | exact hw.2.2.1 _ _ | exact hr0 _ _ | assumption | omega | exact ⟨by omega, by omega⟩) (by first | exact hw.2.2.1 _ _ | exact hw.2.2.1 _ _ | exact hr0 _ _ | assumption | omega | exact ⟨by omega, by omega⟩) (fun h202 => ?_) (fun h202 => ?_)
            · skip
              refine x_iload 211 C dX12_resolved_209 rfl rfl ?_
              exact x_iret C dX12_resolved_211 rfl ⟨vi (by first | (rw [rRsd, ← i5, show m = 0 by omega]; show -1 = if 3 < n then -1 else _; rw [if_pos (by omega)]; done) | (rw [rRsd, ← i5, show m = 0 by omega]; show _ = if 3 < n then -1 else rWay S n; rw [if_neg (by omega), show q = n by omega]; done)), by rw [rRsdR, ← i5, show m = 0 by omega]; rfl⟩
            · skip
              refine x_iconst 206 C dX12_resolved_205 rfl ?_
              refine x_goto 211 C dX12_resolved_206 (by decide) ?_
              exact x_iret C dX12_resolved_211 rfl ⟨vi (by first | (rw [rRsd, ← i5, show m = 0 by omega]; show -1 = if 3 < n then -1 else _; rw [if_pos (by omega)]; done) | (rw [rRsd, ← i5, show m = 0 by omega]; show _ = if 3 < n then -1 else rWay S n; rw [if_neg (by omega), show q = n by omega]; done)), by rw [rRsdR, ← i5, show m = 0 by omega]; rfl⟩
          · skip
            refine x_bipush 180 C dX12_resolved_178 rfl (by decide) ?_
            refine x_iload 182 C dX12_resolved_180 rfl rfl ?_
            refine x_imul 183 C dX12_resolved_182 rfl ?_
            refine x_aload_n 184 C dX12_resolved_183 rfl rfl ?_
            refine x_mrow 187 70 C fr_X12_158 dX12_resolved_184 rfl rfl hM ?_
            refine x_iload 189 C dX12_resolved_187 rfl rfl ?_
            refine x_mldI 190 70 C dX12_resolved_189 rfl rfl hM (by first | exact hIx | exact ⟨by omega, Int.lt_of_lt_of_le (b := 8) (by omega) (by decide)⟩) ?_
            (try simp only [u2r, false_and, and_false, true_and, and_true, ↓reduceIte, Nat.reduceEqDiff])
            refine x_iadd 191 C dX12_resolved_190 rfl ?_
            refine x_istore 193 C dX12_resolved_191 rfl rfl rfl ?_
            refine x_iinc 196 C dX12_resolved_193 rfl rfl rfl rfl ?_
            refine x_goto 165 C dX12_resolved_196 (by decide) ?_
            rw [rWay_step (by omega)]
            exact ih (q + 1) ⟨by omega, by omega, Or.inr (by omega)⟩ (by omega)
      · skip
        refine x_iload_n 113 C dX12_resolved_112 rfl rfl ?_
        refine x_iload 115 C dX12_resolved_113 rfl rfl ?_
        refine x_idiv 116 C dX12_resolved_115 rfl ⟨by omega, by omega⟩ ?_
        refine x_bipush 118 C dX12_resolved_116 rfl (by decide) ?_
        refine x_irem 119 C dX12_resolved_118 rfl (by have hq := rQuo (x := r) (k := rKk m) (by omega) (by omega); omega) ?_
        refine x_istore 121 C dX12_resolved_119 rfl rfl rfl ?_
        refine x_iload 123 C dX12_resolved_121 rfl rfl ?_
        refine x_if_le 126 141 C dX12_resolved_123 rfl (by decide) (by first | exact hw.2.2.1 _ _ | exact hw.2.2.1 _ _ | exact hr0 _ _ | assumption | omega | exact ⟨by omega, by omega⟩) (fun h123 => ?_) (fun h123 => ?_)
        · skip
          refine x_iload 143 C dX12_resolved_141 rfl rfl ?_
          refine x_if_le 146 149 C dX12_resolved_143 rfl (by decide) (by first | exact hw.2.2.1 _ _ | exact hw.2.2.1 _ _ | exact hr0 _ _ | assumption | omega | exact ⟨by omega, by omega⟩) (fun h143 => ?_) (fun h143 => ?_)
          · skip
            refine x_iload 151 C dX12_resolved_149 rfl rfl ?_
            refine x_bipush 153 C dX12_resolved_151 rfl (by decide) ?_
            refine x_idiv 154 C dX12_resolved_153 rfl (by omega) ?_
            rw [rKk_div i1]
            refine x_istore 156 C dX12_resolved_154 rfl rfl rfl ?_
            refine x_goto 107 C dX12_resolved_156 (by decide) ?_
            have hm0 : 0 < m := by omega
            have i6 := rZ3_step (r := r) (n := n) (S := S) hm0
            rw [i5] at i6
            first | (have hA : 0 < r / rKk m % 10 := (by omega); exact ih (m - 1, n + 1, u2 S 70 n.toNat (r / rKk m % 10), _) ⟨by (try dsimp only); omega, by (try dsimp only); omega, by (try dsimp only); omega, rSeg_put i4 i2 (by omega), by rw [i6, if_pos hA]⟩ (by dsimp only; omega)) | (have hA : ¬ 0 < r / rKk m % 10 := (by omega); have hB : 0 < n := (by omega); exact ih (m - 1, n + -1, S, _) ⟨by (try dsimp only); omega, by (try dsimp only); omega, by (try dsimp only); omega, fun j hj => i4 j (by (try dsimp only at hj); omega), by rw [i6, if_neg hA, if_pos hB]; rfl⟩ (by dsimp only; omega)) | (have hA : ¬ 0 < r / rKk m % 10 := (by omega); have hB : ¬ 0 < n := (by omega); exact ih (m - 1, n, S, _) ⟨by (try dsimp only); omega, by (try dsimp only); omega, by (try dsimp only); omega, i4, by rw [i6, if_neg hA, if_neg hB]⟩ (by dsimp only; omega))
          · skip
            refine x_iinc 149 C dX12_resolved_146 rfl rfl rfl rfl ?_
            refine x_iload 151 C dX12_resolved_149 rfl rfl ?_
            refine x_bipush 153 C dX12_resolved_151 rfl (by decide) ?_
            refine x_idiv 154 C dX12_resolved_153 rfl (by omega) ?_
            rw [rKk_div i1]
            refine x_istore 156 C dX12_resolved_154 rfl rfl rfl ?_
            refine x_goto 107 C dX12_resolved_156 (by decide) ?_
            have hm0 : 0 < m := by omega
            have i6 := rZ3_step (r := r) (n := n) (S := S) hm0
            rw [i5] at i6
            first | (have hA : 0 < r / rKk m % 10 := (by omega); exact ih (m - 1, n + 1, u2 S 70 n.toNat (r / rKk m % 10), _) ⟨by (try dsimp only); omega, by (try dsimp only); omega, by (try dsimp only); omega, rSeg_put i4 i2 (by omega), by rw [i6, if_pos hA]⟩ (by dsimp only; omega)) | (have hA : ¬ 0 < r / rKk m % 10 := (by omega); have hB : 0 < n := (by omega); exact ih (m - 1, n + -1, S, _) ⟨by (try dsimp only); omega, by (try dsimp only); omega, by (try dsimp only); omega, fun j hj => i4 j (by (try dsimp only at hj); omega), by rw [i6, if_neg hA, if_pos hB]; rfl⟩ (by dsimp only; omega)) | (have hA : ¬ 0 < r / rKk m % 10 := (by omega); have hB : ¬ 0 < n := (by omega); exact ih (m - 1, n, S, _) ⟨by (try dsimp only); omega, by (try dsimp only); omega, by (try dsimp only); omega, i4, by rw [i6, if_neg hA, if_neg hB]⟩ (by dsimp only; omega))
        · skip
          refine x_aload_n 127 C dX12_resolved_126 rfl rfl ?_
          refine x_mrow 130 70 C fr_X12_158 dX12_resolved_127 rfl rfl hM ?_
          refine x_iload 132 C dX12_resolved_130 rfl rfl ?_
          refine x_iload 134 C dX12_resolved_132 rfl rfl ?_
          refine x_mstI 135 70 C dX12_resolved_134 rfl rfl hM ⟨by omega, Int.lt_of_lt_of_le (b := 8) (by omega) (by decide)⟩ (by first | exact hw.2.2.1 _ _ | exact hw.2.2.1 _ _ | exact hr0 _ _ | assumption | omega | exact ⟨by omega, by omega⟩) ?_
          refine x_wf (fun hw => ?_)
          refine x_iinc 138 C dX12_resolved_135 rfl rfl rfl rfl ?_
          refine x_goto 149 C dX12_resolved_138 (by decide) ?_
          refine x_iload 151 C dX12_resolved_149 rfl rfl ?_
          refine x_bipush 153 C dX12_resolved_151 rfl (by decide) ?_
          refine x_idiv 154 C dX12_resolved_153 rfl (by omega) ?_
          rw [rKk_div i1]
          refine x_istore 156 C dX12_resolved_154 rfl rfl rfl ?_
          refine x_goto 107 C dX12_resolved_156 (by decide) ?_
          have hm0 : 0 < m := by omega
          have i6 := rZ3_step (r := r) (n := n) (S := S) hm0
          rw [i5] at i6
          first | (have hA : 0 < r / rKk m % 10 := (by omega); exact ih (m - 1, n + 1, u2 S 70 n.toNat (r / rKk m % 10), _) ⟨by (try dsimp only); omega, by (try dsimp only); omega, by (try dsimp only); omega, rSeg_put i4 i2 (by omega), by rw [i6, if_pos hA]⟩ (by dsimp only; omega)) | (have hA : ¬ 0 < r / rKk m % 10 := (by omega); have hB : 0 < n := (by omega); exact ih (m - 1, n + -1, S, _) ⟨by (try dsimp only); omega, by (try dsimp only); omega, by (try dsimp only); omega, fun j hj => i4 j (by (try dsimp only at hj); omega), by rw [i6, if_neg hA, if_pos hB]; rfl⟩ (by dsimp only; omega)) | (have hA : ¬ 0 < r / rKk m % 10 := (by omega); have hB : ¬ 0 < n := (by omega); exact ih (m - 1, n, S, _) ⟨by (try dsimp only); omega, by (try dsimp only); omega, by (try dsimp only); omega, i4, by rw [i6, if_neg hA, if_neg hB]⟩ (by dsimp only; omega))
    · skip
      have hpw : p = rPw r := by (unfold rPw; rcases i1 with h | h | h | h | h <;> subst h <;> (repeat (first | omega | split)))
      refine x_iconst 19 C dX12_resolved_18 rfl ?_
      refine x_istore 21 C dX12_resolved_19 rfl rfl rfl ?_
      refine x_iload_n 22 C dX12_resolved_21 rfl rfl ?_
      refine x_iload_n 23 C dX12_resolved_22 rfl rfl ?_
      refine x_idiv 24 C dX12_resolved_23 rfl (by omega) ?_
      refine x_iconst 25 C dX12_resolved_24 rfl ?_
      refine x_icmp_ne 28 101 C dX12_resolved_25 rfl (by decide) (by first | exact hw.2.2.1 _ _ | exact hw.2.2.1 _ _ | exact hr0 _ _ | assumption | omega | exact ⟨by omega, by omega⟩) (by first | exact hw.2.2.1 _ _ | exact hw.2.2.1 _ _ | exact hr0 _ _ | assumption | omega | exact ⟨by omega, by omega⟩) (fun h25 => ?_) (fun h25 => ?_)
      · skip
        first | exact hJ101 (R, 0, none, none, none) (by show (R, (0 : Int)) = rZ0 R a r; rw [rZ0, if_neg (by rw [hpw] at h25; exact h25)]) | exact hJ101 (S, n, some (.int (i32 (R 11 a.toNat))), some (.int (i32 (if 99 < R 11 a.toNat then 100 else if 9 < R 11 a.toNat then 10 else 1))), some (.int (i32 k))) (by show (S, n) = rZ0 R a r; rw [rZ0, if_pos (by rw [hpw] at h25; exact h25)]; exact rZi_end hI (by omega))
      · skip
        refine x_aload_n 29 C dX12_resolved_28 rfl rfl ?_
        refine x_mrow 32 11 C fr_X12_29 dX12_resolved_29 rfl rfl hM ?_
        refine x_iload_n 33 C dX12_resolved_32 rfl rfl ?_
        refine x_mldI 34 11 C dX12_resolved_33 rfl rfl hM (by first | exact hIx | exact ⟨by omega, Int.lt_of_lt_of_le (b := 24) (by omega) (by decide)⟩) ?_
        refine x_istore 36 C dX12_resolved_34 rfl rfl rfl ?_
        refine x_joinv 61 (fun vJ => vJ = if 99 < R 11 a.toNat then 100 else if 9 < R 11 a.toNat then 10 else 1) ?_ (fun hJ61 => ?_)
        · intro vJ hJ
          subst hJ
          refine x_istore 63 C dX12_resolved_61 rfl rfl rfl ?_
          refine x_iload 65 C dX12_resolved_63 rfl rfl ?_
          refine x_istore 67 C dX12_resolved_65 rfl rfl rfl ?_
          refine x_loop (α := Int × Int × RT) (fun ⟨k, n, S⟩ => k.toNat) (fun ⟨k, n, S⟩ => rZi R (R 11 a.toNat) k n S) (fun ⟨k, n, S⟩ => wR G S) (fun ⟨k, n, S⟩ => [some (.ref o), some (.int (i32 a)), some (.int (i32 r)), some (.int (i32 p)), some (.int (i32 n)), some (.int (i32 (R 11 a.toNat))), some (.int (i32 (if 99 < R 11 a.toNat then 100 else if 9 < R 11 a.toNat then 10 else 1))), some (.int (i32 k))]) (fun _ => []) (if 99 < R 11 a.toNat then 100 else if 9 < R 11 a.toNat then 10 else 1, 0, R) (rZi_0 R (R 11 a.toNat)) rfl rfl rfl ?_
          intro aa hI ih
          obtain ⟨k, n, S⟩ := aa
          (try dsimp only at hI); (try dsimp only at ih); (try dsimp only)
          have hi := rZi_in hI
          have hwk := rQuo (x := R 11 a.toNat) (k := k) (by omega) (by omega)
          refine x_iload 69 C dX12_resolved_67 rfl rfl ?_
          refine x_iconst 70 C dX12_resolved_69 rfl ?_
          refine x_icmp_le 73 101 C dX12_resolved_70 rfl (by decide) (by first | exact hw.2.2.1 _ _ | exact hw.2.2.1 _ _ | exact hr0 _ _ | assumption | omega | exact ⟨by omega, by omega⟩) (by first | exact hw.2.2.1 _ _ | exact hw.2.2.1 _ _ | exact hr0 _ _ | assumption | omega | exact ⟨by omega, by omega⟩) (fun h70 => ?_) (fun h70 => ?_)
          · skip
            first | exact hJ101 (R, 0, none, none, none) (by show (R, (0 : Int)) = rZ0 R a r; rw [rZ0, if_neg (by rw [hpw] at h25; exact h25)]) | exact hJ101 (S, n, some (.int (i32 (R 11 a.toNat))), some (.int (i32 (if 99 < R 11 a.toNat then 100 else if 9 < R 11 a.toNat then 10 else 1))), some (.int (i32 k))) (by show (S, n) = rZ0 R a r; rw [rZ0, if_pos (by rw [hpw] at h25; exact h25)]; exact rZi_end hI (by omega))
          · skip
            refine x_aload_n 74 C dX12_resolved_73 rfl rfl ?_
            refine x_mrow 77 70 C fr_X12_158 dX12_resolved_74 rfl rfl hM ?_
            refine x_iload 79 C dX12_resolved_77 rfl rfl ?_
            refine x_iload 81 C dX12_resolved_79 rfl rfl ?_
            refine x_iload 83 C dX12_resolved_81 rfl rfl ?_
            refine x_idiv 84 C dX12_resolved_83 rfl ⟨by omega, by omega⟩ ?_
            refine x_bipush 86 C dX12_resolved_84 rfl (by decide) ?_
            refine x_irem 87 C dX12_resolved_86 rfl (by omega) ?_
            refine x_mstI 88 70 C dX12_resolved_87 rfl rfl hM ⟨by omega, Int.lt_of_lt_of_le (b := 8) (by omega) (by decide)⟩ (by first | exact hw.2.2.1 _ _ | exact hw.2.2.1 _ _ | exact hr0 _ _ | assumption | omega | exact ⟨by omega, by omega⟩) ?_
            refine x_wf (fun hw => ?_)
            refine x_iinc 91 C dX12_resolved_88 rfl rfl rfl rfl ?_
            refine x_iload 93 C dX12_resolved_91 rfl rfl ?_
            refine x_bipush 95 C dX12_resolved_93 rfl (by decide) ?_
            refine x_idiv 96 C dX12_resolved_95 rfl (by omega) ?_
            refine x_istore 98 C dX12_resolved_96 rfl rfl rfl ?_
            refine x_goto 67 C dX12_resolved_98 (by decide) ?_
            exact ih (k / 10, n + 1, u2 S 70 n.toNat (R 11 a.toNat / k % 10)) (rZi_step hI (by omega)) (by dsimp only; omega)
        · skip
          refine x_iload 38 C dX12_resolved_36 rfl rfl ?_
          refine x_bipush 40 C dX12_resolved_38 rfl (by decide) ?_
          refine x_icmp_le 43 48 C dX12_resolved_40 rfl (by decide) (by first | exact hw.2.2.1 _ _ | exact hw.2.2.1 _ _ | exact hr0 _ _ | assumption | omega | exact ⟨by omega, by omega⟩) (by first | exact hw.2.2.1 _ _ | exact hw.2.2.1 _ _ | exact hr0 _ _ | assumption | omega | exact ⟨by omega, by omega⟩) (fun h40 => ?_) (fun h40 => ?_)
          · skip
            refine x_iload 50 C dX12_resolved_48 rfl rfl ?_
            refine x_bipush 52 C dX12_resolved_50 rfl (by decide) ?_
            refine x_icmp_le 55 60 C dX12_resolved_52 rfl (by decide) (by first | exact hw.2.2.1 _ _ | exact hw.2.2.1 _ _ | exact hr0 _ _ | assumption | omega | exact ⟨by omega, by omega⟩) (by first | exact hw.2.2.1 _ _ | exact hw.2.2.1 _ _ | exact hr0 _ _ | assumption | omega | exact ⟨by omega, by omega⟩) (fun h52 => ?_) (fun h52 => ?_)
            · skip
              refine x_iconst 61 C dX12_resolved_60 rfl ?_
              exact hJ61 _ (by first | (rw [if_pos (by omega)]; done) | (rw [if_neg (by omega), if_pos (by omega)]; done) | (rw [if_neg (by omega), if_neg (by omega)]; done))
            · skip
              refine x_bipush 57 C dX12_resolved_55 rfl (by decide) ?_
              refine x_goto 61 C dX12_resolved_57 (by decide) ?_
              exact hJ61 _ (by first | (rw [if_pos (by omega)]; done) | (rw [if_neg (by omega), if_pos (by omega)]; done) | (rw [if_neg (by omega), if_neg (by omega)]; done))
          · skip
            refine x_bipush 45 C dX12_resolved_43 rfl (by decide) ?_
            refine x_goto 61 C dX12_resolved_45 (by decide) ?_
            exact hJ61 _ (by first | (rw [if_pos (by omega)]; done) | (rw [if_neg (by omega), if_pos (by omega)]; done) | (rw [if_neg (by omega), if_neg (by omega)]; done))
  · skip
    refine x_iload_n 11 C dX12_resolved_10 rfl rfl ?_
    refine x_bipush 13 C dX12_resolved_11 rfl (by decide) ?_
    refine x_imul 14 C dX12_resolved_13 rfl ?_
    refine x_istore_n 15 C dX12_resolved_14 rfl rfl rfl ?_
    refine x_goto 2 C dX12_resolved_15 (by decide) ?_
    have hlt : 9 < r / p := by first | exact h7 | omega
    exact ih (p * 10) ⟨by rcases i1 with h | h | h | h | h <;> subst h <;> omega, by rcases i1 with h | h | h | h | h <;> subst h <;> omega⟩ (by rcases i1 with h | h | h | h | h <;> subst h <;> omega)
