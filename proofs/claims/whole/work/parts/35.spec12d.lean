/-! one hop: the state after it -/
theorem rD3_69 {R : RT} {a : Int} (hL : RLn R) (ht : 0 ≤ R 0 0) : rD3 R a 69 0 = rWas R a := by
  unfold rD3
  split
  · rw [(rPfR_I (R := rD2 R a) (a := a) (w := rWhere R a) hL ht).1 69 (by decide) (by decide)]
    unfold rD2; rw [u2_s]
  · unfold rD2; rw [u2_s]
theorem rD4_out {R : RT} {a : Int} {f : Nat} (hL : RLn R) (ht : 0 ≤ R 0 0) (h : f < 44 ∨ 60 < f) (h1 : f ≠ 1) (h2 : f ≠ 68) (h3 : f ≠ 69) : rD4 R a f = R f := by
  unfold rD4
  rw [rCon_out (by omega) h1]
  exact (rD3_I hL ht).1 f h h1 h2 h3
theorem rD4_I {R : RT} {a n : Int} (hX : RX R n) : RC (rD4 R a) ∧ RLn (rD4 R a) ∧ (R 1 0 ≤ rD4 R a 1 0 ∧ rD4 R a 1 0 ≤ R 1 0 + 2) ∧ (R 45 0 ≤ rD4 R a 45 0 ∧ rD4 R a 45 0 ≤ R 45 0 + 2) ∧ (R 53 0 ≤ rD4 R a 53 0 ∧ rD4 R a 53 0 ≤ R 53 0 + 1) ∧ (R 54 0 ≤ rD4 R a 54 0 ∧ rD4 R a 54 0 ≤ R 54 0 + 1) ∧ rD4 R a 69 0 = rWas R a := by
  obtain ⟨x1, x2, x3, x4, x5, x6, x7, x8, x9⟩ := hX
  obtain ⟨i1, i2, i3, i4, i5, i6⟩ := rD3_I (a := a) x2 x4.1
  have o : ∀ f, (f < 44 ∨ 60 < f) → f ≠ 1 → f ≠ 68 → f ≠ 69 → rD4 R a f = R f := fun f => rD4_out x2 x4.1
  have c45 := rCon_45 (R := rD3 R a) (a := a) (cr := bI (rUsed R a)) (w := rWhere R a)
  have c1 := rCon_1 (R := rD3 R a) (a := a) (cr := bI (rUsed R a)) (w := rWhere R a)
  have e0 : rD3 R a 0 0 = R 0 0 := congrFun (i1 0 (by decide) (by decide) (by decide) (by decide)) 0
  have cL := rCon_Ln (a := a) (cr := bI (rUsed R a)) (w := rWhere R a) i2 (by omega)
  have e53 : rD4 R a 53 0 = rD3 R a 53 0 := by unfold rD4; rw [rCon_out (by decide) (by decide)]
  have e54 : rD4 R a 54 0 = rD3 R a 54 0 := by unfold rD4; rw [rCon_out (by decide) (by decide)]
  have e69 : rD4 R a 69 0 = rD3 R a 69 0 := by unfold rD4; rw [rCon_out (by decide) (by decide)]
  have d1 : rD4 R a 1 0 = rD3 R a 1 0 + 1 := c1
  have d45 : rD3 R a 45 0 ≤ rD4 R a 45 0 ∧ rD4 R a 45 0 ≤ rD3 R a 45 0 + 1 := c45
  refine ⟨rC_of (o 3 (by decide) (by decide) (by decide) (by decide)) (o 34 (by decide) (by decide) (by decide) (by decide)) (o 35 (by decide) (by decide) (by decide) (by decide)) (o 36 (by decide) (by decide) (by decide) (by decide)) (o 37 (by decide) (by decide) (by decide) (by decide)) (o 39 (by decide) (by decide) (by decide) (by decide)) x1, cL, by omega, by omega, by omega, by omega, ?_⟩
  rw [e69, rD3_69 x2 x4.1]
theorem rD5_I {R : RT} {a q n : Int} (hH : RH R) (hA : RA R) (hD : RAd R) (hS : RS R) (hX : RX R n) (h : 0 ≤ a ∧ a < R 7 0) (h5 : R 32 q.toNat = 0) : Fq R (rD5 R a q) ∧ RX (rD5 R a q) (n + 1) ∧ rD5 R a q 69 0 = rWas R a := by
  have hX2 := hX
  obtain ⟨x1, x2, x3, x4, x5, x6, x7, x8, x9⟩ := hX2
  obtain ⟨g1, g2, g3, g4, g5, g6, g7⟩ := rD4_I (a := a) hX
  have o : ∀ f, (f < 44 ∨ 60 < f) → f ≠ 1 → f ≠ 68 → f ≠ 69 → rD4 R a f = R f := fun f => rD4_out x2 x4.1
  have e0 : rD4 R a 0 0 = R 0 0 := congrFun (o 0 (by decide) (by decide) (by decide) (by decide)) 0
  have e34 : rD4 R a 34 0 = R 34 0 := congrFun (o 34 (by decide) (by decide) (by decide) (by decide)) 0
  have e32 : rD4 R a 32 = R 32 := o 32 (by decide) (by decide) (by decide) (by decide)
  have e7 : rD4 R a 7 0 = R 7 0 := congrFun (o 7 (by decide) (by decide) (by decide) (by decide)) 0
  have hx1 := x1.1
  unfold rD5
  split
  · have s := rSends_I (R := rD4 R a) (a := a) (w := rWhere R a) (q := q) (by rw [e32]; exact h5) (by omega) (by omega)
    have sF : Fs R (rSends (rD4 R a) a (rWhere R a) q) := rD4_Fq.Fs.trans s.Fs
    have s34 : rSends (rD4 R a) a (rWhere R a) q 34 0 = R 34 0 := by rw [s.1 34 (by decide) (by decide) (by decide) (by decide)]; exact e34
    have t := rSets_I (R := rSends (rD4 R a) a (rWhere R a) q) (a := a) (w := rWhere R a) (sF.A hA) (sF.Ad hD) (sF.S hS) (s.C g1) (by rw [sF 7 (by decide) (by decide)]; exact h) (by omega)
    have s0 := congrFun (s.1 0 (by decide) (by decide) (by decide) (by decide)) 0
    have s45 := congrFun (s.1 45 (by decide) (by decide) (by decide) (by decide)) 0
    have s53 := congrFun (s.1 53 (by decide) (by decide) (by decide) (by decide)) 0
    have s54 := congrFun (s.1 54 (by decide) (by decide) (by decide) (by decide)) 0
    have s69 := congrFun (s.1 69 (by decide) (by decide) (by decide) (by decide)) 0
    have t0 := congrFun (t.1 0 (by decide) (by decide)) 0
    have t45 := congrFun (t.1 45 (by decide) (by decide)) 0
    have t53 := congrFun (t.1 53 (by decide) (by decide)) 0
    have t54 := congrFun (t.1 54 (by decide) (by decide)) 0
    have t69 := congrFun (t.1 69 (by decide) (by decide)) 0
    have sq : Fq (rD4 R a) (rSends (rD4 R a) a (rWhere R a) q) := fun f b c _ _ => s.1 f c (by omega) (by omega) (by omega)
    have sL : RLn (rSends (rD4 R a) a (rWhere R a) q) := by
      unfold RLn
      rw [s.1 44 (by decide) (by decide) (by decide) (by decide), s.1 51 (by decide) (by decide) (by decide) (by decide)]
      exact g2
    have sa := s.2.1
    have sb := s.2.2
    have ta := t.2.2.2
    refine ⟨rD4_Fq.trans (sq.trans t.1.Fq), ⟨t.2.1, t.1.Ln sL, t.2.2.1, by omega, by omega, by omega, by omega, by omega, ?_⟩, by omega⟩
    intro j
    rw [t.1 32 (by decide) (by decide)]
    by_cases c : j = q.toNat
    · subst c; omega
    · show 0 ≤ rSndL (rD4 R a) a (rWhere R a) q 4 32 j ∧ rSndL (rD4 R a) a (rWhere R a) q 4 32 j ≤ 12
      rw [rSndL_32 c, e32]; exact x9 j
  · exact ⟨rD4_Fq, ⟨g1, g2, by omega, by omega, by omega, by omega, by omega, by omega, fun j => by rw [e32]; exact x9 j⟩, g7⟩
theorem rDoes_I {R : RT} {a q n : Int} (hH : RH R) (hA : RA R) (hD : RAd R) (hS : RS R) (hX : RX R n) (h : 0 ≤ a ∧ a < R 7 0) (h5 : R 32 q.toNat = 0) : Fq R (rDoesR R a q) ∧ RX (rDoesR R a q) (n + 1) := by
  unfold rDoesR
  split
  · obtain ⟨x1, x2, x3, x4, x5, x6, x7, x8, x9⟩ := hX
    obtain ⟨i1, i2, i3, i4, i5, i6⟩ := rD3_I (a := a) x2 x4.1
    have e0 : rD3 R a 0 0 = R 0 0 := congrFun (i1 0 (by decide) (by decide) (by decide) (by decide)) 0
    have e34 : rD3 R a 34 0 = R 34 0 := congrFun (i1 34 (by decide) (by decide) (by decide) (by decide)) 0
    refine ⟨rD3_Fq, ⟨rC_of (i1 3 (by decide) (by decide) (by decide) (by decide)) (i1 34 (by decide) (by decide) (by decide) (by decide)) (i1 35 (by decide) (by decide) (by decide) (by decide)) (i1 36 (by decide) (by decide) (by decide) (by decide)) (i1 37 (by decide) (by decide) (by decide) (by decide)) (i1 39 (by decide) (by decide) (by decide) (by decide)) x1, i2, by omega, by omega, by omega, by omega, by omega, by omega, fun j => ?_⟩⟩
    rw [i1 32 (by decide) (by decide) (by decide) (by decide)]
    exact x9 j
  · obtain ⟨a1, a2, a3⟩ := rD5_I (a := a) (q := q) hH hA hD hS hX h h5
    exact ⟨a1, a2⟩
