/-! faces: time goes on -/
section FACES6
variable {ks ls : List Nat} {G G' : GT} {B : Nat → Nat} {R S : RT}
theorem rkW_R2 (hW : rkW G B R) (E : ∀ f : Nat, 2 < f → f < 28 → S f = R f) (hr : ∀ k j, InR (S k j)) : rkW G B S := by
  obtain ⟨hB, ⟨h1, h2⟩, ⟨a1, a2⟩, ⟨p1, p2⟩, iH, iA, iAd, iHl, iP, iS, -, iU⟩ := hW
  refine ⟨hB, ⟨by rw [E 3 (by decide) (by decide)]; exact h1, fun i i0 i1 => ?_⟩, ⟨by rw [E 7 (by decide) (by decide)]; exact a1, fun i i0 i1 => ?_⟩, ⟨by rw [E 24 (by decide) (by decide)]; exact p1, fun i i0 i1 => ?_⟩, ?_, ?_, ?_, ?_, ?_, ?_, hr, ?_⟩
  · rw [E 3 (by decide) (by decide)] at i1
    have := h2 i i0 i1
    unfold rkHo rDep
    unfold rkHo rDep at this
    rw [E 4 (by decide) (by decide), E 5 (by decide) (by decide), E 6 (by decide) (by decide), rDepth_eq (E 4 (by decide) (by decide))]
    exact this
  · rw [E 7 (by decide) (by decide)] at i1
    have := a2 i i0 i1
    unfold rkAd rkTx rkAll rkOrg rGate rkLn
    unfold rkAd rkTx rkAll rkOrg rGate rkLn at this
    simp only [rSign_eq (fun f f1 f2 => E f f1 (by omega))]
    rw [E 8 (by decide) (by decide), E 9 (by decide) (by decide), E 10 (by decide) (by decide), E 11 (by decide) (by decide), E 12 (by decide) (by decide), E 13 (by decide) (by decide), E 14 (by decide) (by decide), E 15 (by decide) (by decide), E 16 (by decide) (by decide), E 17 (by decide) (by decide), E 18 (by decide) (by decide), E 19 (by decide) (by decide), E 20 (by decide) (by decide), E 21 (by decide) (by decide), E 22 (by decide) (by decide), E 23 (by decide) (by decide)]
    exact this
  · rw [E 24 (by decide) (by decide)] at i1
    have := p2 i i0 i1
    unfold rkPa
    unfold rkPa at this
    rw [E 25 (by decide) (by decide), E 26 (by decide) (by decide), E 27 (by decide) (by decide)]
    exact this
  · unfold RH; rw [E 3 (by decide) (by decide), E 4 (by decide) (by decide)]; exact iH
  · unfold RA; rw [E 7 (by decide) (by decide)]; exact iA
  · unfold RAd; rw [E 7 (by decide) (by decide), E 8 (by decide) (by decide), E 9 (by decide) (by decide), E 10 (by decide) (by decide), E 11 (by decide) (by decide), E 12 (by decide) (by decide), E 13 (by decide) (by decide), E 14 (by decide) (by decide), E 20 (by decide) (by decide), E 3 (by decide) (by decide)]; exact iAd
  · unfold RHl; rw [E 3 (by decide) (by decide), E 5 (by decide) (by decide)]; exact iHl
  · unfold RP; rw [E 24 (by decide) (by decide), E 25 (by decide) (by decide), E 7 (by decide) (by decide), E 26 (by decide) (by decide), E 27 (by decide) (by decide)]; exact iP
  · unfold RS; rw [E 7 (by decide) (by decide), E 18 (by decide) (by decide), E 19 (by decide) (by decide), E 21 (by decide) (by decide), E 23 (by decide) (by decide)]; exact iS
  · unfold rkU; rw [E 3 (by decide) (by decide), E 4 (by decide) (by decide), E 5 (by decide) (by decide), E 7 (by decide) (by decide), E 8 (by decide) (by decide), E 9 (by decide) (by decide), E 10 (by decide) (by decide), E 11 (by decide) (by decide)]; exact iU
/-- the pool, later -/
theorem rkQ_time (hB : rkB G B) (hQ : rkQ G B R) (h : rkFr ks ls G G') (hks : ∀ k ∈ ks, (k < 400 ∨ 404 ≤ k) ∧ k ≠ 1101) (hls : B 9 ∉ ls) (hS : ∀ f : Nat, (44 ≤ f ∧ f ≤ 52) ∨ f = 1 → S f = R f) (h0 : R 0 0 ≤ S 0 0) : rkQ G' B S := by
  obtain ⟨q, p, c⟩ := rkQ_fr hB hQ h hks hls (S := R) (fun _ _ => rfl)
  refine ⟨?_, ?_, by rw [hS 45 (by omega)]; exact c⟩
  · unfold rkQl rkCn
    unfold rkQl rkCn at q
    rw [hS 44 (by omega), hS 46 (by omega), hS 47 (by omega), hS 48 (by omega), hS 49 (by omega), hS 50 (by omega), hS 51 (by omega), hS 52 (by omega)]
    exact q
  · obtain ⟨p1, p2, p3⟩ := p
    refine ⟨by rw [hS 44 (by omega)]; exact p1, fun k hk => ?_, ?_⟩
    · rw [hS 44 (by omega)] at hk
      obtain ⟨s1, s2, s3, s4, s5, s6, s7⟩ := p2 k hk
      unfold rkSl
      rw [hS 46 (by omega), hS 47 (by omega), hS 48 (by omega), hS 49 (by omega), hS 50 (by omega), hS 51 (by omega), hS 52 (by omega), hS 1 (by omega)]
      exact ⟨s1, s2, s3, s4, s5, ⟨s6.1, by omega⟩, s7⟩
    · rw [hS 44 (by omega), hS 46 (by omega), hS 47 (by omega), hS 48 (by omega), hS 49 (by omega), hS 50 (by omega)]
      exact p3
theorem rkZ_pass {t : Int} (hZ : rkZ G B R) (ht : 1 ≤ t ∧ t ≤ 1000) (hfr : rkFr [1408] [B 8, B 5] G G') (h48 : gI G' 1408 (B 0) = R 0 0 + t) (hC : rkC G' B (rPassF (R 34 0).toNat (u2 R 0 0 (R 0 0 + t)))) (hJ : rkJ (rPassF (R 34 0).toNat (u2 R 0 0 (R 0 0 + t)))) (hF : rkF G' B (rPassF (R 34 0).toNat (u2 R 0 0 (R 0 0 + t)))) : rkZ G' B (rPassF (R 34 0).toNat (u2 R 0 0 (R 0 0 + t))) := by
  obtain ⟨hW, -, -, hQ, -, s1, s2, s3⟩ := hZ
  have hB := hW.1
  obtain ⟨⟨b0, -, -⟩, ⟨k1, k2, k3, k4, k5, k8, k9⟩, -, hne⟩ := id hB
  have E : ∀ f : Nat, f ≠ 0 → f < 34 ∨ 43 < f → rPassF (R 34 0).toNat (u2 R 0 0 (R 0 0 + t)) f = R f := fun f f1 f2 => by
    rw [rkPs_o f f2]
    funext j
    exact u2_k f1
  have e0 : rPassF (R 34 0).toNat (u2 R 0 0 (R 0 0 + t)) 0 0 = R 0 0 + t := by rw [rkPs_o 0 (by decide), u2_s]
  have n : (B 1 ≠ B 8 ∧ B 1 ≠ B 5) ∧ (B 2 ≠ B 8 ∧ B 2 ≠ B 5) ∧ (B 3 ≠ B 8 ∧ B 3 ≠ B 5) ∧ (B 8 ≠ B 9 ∧ B 5 ≠ B 9) := by
    obtain ⟨n12, n13, n14, n15, n18, n19, n23, n24, n25, n28, n29, n34, n35, n38, n39, n45, n48, n49, n58, n59, n89⟩ := hne
    exact ⟨⟨n18, n15⟩, ⟨n28, n25⟩, ⟨n38, n35⟩, ⟨n89, n59⟩⟩
  have hW1 := rkW_fr hW hfr (by decide) ⟨by simpa using n.1, by simpa using n.2.1, by simpa using n.2.2.1⟩ (fun x z => by
    simp at z
    rcases z with rfl | rfl <;> omega)
  refine ⟨rkW_R2 hW1 (fun f f1 f2 => E f (by omega) (by omega)) hJ.2.2.2, hC, hJ, rkQ_time hB hQ hfr (by decide) (by simpa using ⟨fun z => n.2.2.2.1 z.symm, fun z => n.2.2.2.2 z.symm⟩) (fun f hf => E f (by omega) (by omega)) (by rw [e0]; omega), hF, ?_, by rw [e0]; exact h48, ?_⟩
  · rw [E 2 (by decide) (by decide)]
    exact ((hfr.2.1 1407 (B 0) (by omega) (by decide)).1).trans s1
  · rw [E 53 (by decide) (by decide)]
    exact ((hfr.2.1 1409 (B 0) (by omega) (by decide)).1).trans s3
end FACES6
