/-! faces: one host more -/
section FACES7
variable {G : GT} {B : Nat → Nat} {R T : RT}
/-- the rows behind what there is -/
def rkE0 (R : RT) : Prop := (∀ f j : Nat, f = 13 ∨ (15 ≤ f ∧ f ≤ 18) ∨ (20 ≤ f ∧ f ≤ 23) → R 7 0 ≤ (j : Int) → R f j = 0) ∧ ∀ j : Nat, R 3 0 ≤ (j : Int) → R 6 j = 0
theorem rHostOf_none {R : RT} {a w : Int} : ∀ n : Nat, rHostOf R a w n = -1 → ∀ j : Nat, j < n → ¬ (R 4 j = a ∧ R 5 j = w) := by
  intro n
  induction n with
  | zero => intro _ j hj; omega
  | succ n ih =>
    intro h j hj hx
    unfold rHostOf at h
    by_cases c : R 4 n = a ∧ R 5 n = w
    · rw [if_pos c] at h
      omega
    · rw [if_neg c] at h
      by_cases d : j = n
      · subst d; exact c hx
      · exact ih h j (by omega) hx
theorem rkZ_host {a w : Int} {q : Nat} (hZ : rkZ G B R) (ha : -1 ≤ a ∧ a < R 3 0) (hw : 0 ≤ w ∧ w ≤ 701) (h16 : R 3 0 < 16) (hno : rHostOf R a w (R 3 0).toNat = -1) (hE : rkE0 R) (hq : gK G q = 0) (hT : ∀ k : Nat, k < 61 → T k = R k) (hr : ∀ k j, InR (T k j)) : rkZ (rkNewH G B R a w q) B (u2 (u2 (u2 T 4 (R 3 0).toNat a) 5 (R 3 0).toNat w) 3 0 (R 3 0 + 1)) := by
  obtain ⟨hW, hC, hJ, hQ, hF, s1, s2, s3⟩ := hZ
  obtain ⟨hB, ⟨h1, h2⟩, ⟨a1, a2⟩, ⟨p1, p2⟩, iH, iA, iAd, iHl, iP, iS, -, iU⟩ := id hW
  obtain ⟨⟨b0, b6, b7⟩, ⟨k1, k2, k3, k4, k5, k8, k9⟩, -, ⟨n12, n13, n14, n15, n18, n19, n23, n24, n25, n28, n29, n34, n35, n38, n39, n45, n48, n49, n58, n59, n89⟩⟩ := id hB
  have h7 := iA.2
  have h3 := iH.1
  have hfr : rkFr [] [B 1] G (rkNewH G B R a w q) := fr_sL List.mem_cons_self (fr_sIq hq (fr_sIq hq (fr_sPq hq (by decide) (fr_sIq hq (fr_nO hq (by decide) fr_rfl)))))
  have e1 : gL (rkNewH G B R a w q) (B 1) = gL G (B 1) ++ [q] := sL_s
  have en : ∀ x, x ≠ B 1 → gL (rkNewH G B R a w q) x = gL G x := fun x hx => sL_n hx
  have e2 := en (B 2) n12.symm
  have e3 := en (B 3) n13.symm
  have E : ∀ f : Nat, f < 61 → f < 3 ∨ 5 < f → u2 (u2 (u2 T 4 (R 3 0).toNat a) 5 (R 3 0).toNat w) 3 0 (R 3 0 + 1) f = R f := fun f f1 f2 => by
    funext j
    rw [u2_k (by omega), u2_k (by omega), u2_k (by omega), hT f f1]
  have e33 : u2 (u2 (u2 T 4 (R 3 0).toNat a) 5 (R 3 0).toNat w) 3 0 (R 3 0 + 1) 3 0 = R 3 0 + 1 := u2_s
  have e4n : u2 (u2 (u2 T 4 (R 3 0).toNat a) 5 (R 3 0).toNat w) 3 0 (R 3 0 + 1) 4 (R 3 0).toNat = a := by rw [u2_k (by decide), u2_k (by decide), u2_s]
  have e5n : u2 (u2 (u2 T 4 (R 3 0).toNat a) 5 (R 3 0).toNat w) 3 0 (R 3 0 + 1) 5 (R 3 0).toNat = w := by rw [u2_k (by decide), u2_s]
  have e4 : ∀ j : Nat, j ≠ (R 3 0).toNat → u2 (u2 (u2 T 4 (R 3 0).toNat a) 5 (R 3 0).toNat w) 3 0 (R 3 0 + 1) 4 j = R 4 j := fun j hj => by rw [u2_k (by decide), u2_k (by decide), u2_a hj, hT 4 (by decide)]
  have e5 : ∀ j : Nat, j ≠ (R 3 0).toNat → u2 (u2 (u2 T 4 (R 3 0).toNat a) 5 (R 3 0).toNat w) 3 0 (R 3 0 + 1) 5 j = R 5 j := fun j hj => by rw [u2_k (by decide), u2_a hj, u2_k (by decide), hT 5 (by decide)]
  have hrr := InR_u (f := 3) (i := 0) (InR_u (f := 5) (i := (R 3 0).toNat) (InR_u (f := 4) (i := (R 3 0).toNat) hr (v := a) ⟨by omega, by omega⟩) (v := w) ⟨by omega, by omega⟩) (v := R 3 0 + 1) ⟨by omega, by omega⟩
  generalize hSd : u2 (u2 (u2 T 4 (R 3 0).toNat a) 5 (R 3 0).toNat w) 3 0 (R 3 0 + 1) = S at *
  have l4 : ∀ j : Nat, (j : Int) < R 3 0 → S 4 j = R 4 j := fun j hj => e4 j (by omega)
  have l5 : ∀ j : Nat, (j : Int) < R 3 0 → S 5 j = R 5 j := fun j hj => e5 j (by omega)
  have dep : ∀ b, -1 ≤ b → b < R 3 0 → rDep S b = rDep R b := fun b b0 b1 => rDepth_low iH l4 17 b b0 b1
  have hW' : rkW (rkNewH G B R a w q) B S := by
    refine ⟨rkB_fr hB hfr (fun k z => by cases z), ⟨?_, fun j j0 j1 => ?_⟩, ⟨by rw [e2, E 7 (by decide) (by decide)]; exact a1, fun j j0 j1 => ?_⟩, ⟨by rw [e3, E 24 (by decide) (by decide)]; exact p1, fun j j0 j1 => ?_⟩, ?_, ?_, ?_, ?_, ?_, ?_, hrr, ?_⟩
    · rw [e1, e33, List.length_append]
      show (((gL G (B 1)).length + 1 : Nat) : Int) = _
      omega
    · rw [e33] at j1
      by_cases cj : j = R 3 0
      · rw [cj, rkAt_new h1 e1]
        have z6 := hE.2 (R 3 0).toNat (by omega)
        unfold rkHo
        rw [e4n, e5n, E 6 (by decide) (by decide), z6, dep a ha.1 ha.2, rkOp_app h1 e1 ha.1 ha.2]
        refine ⟨nO_q, ?_, ?_, ?_, ?_, ?_⟩
        · show u2 (u2 (u2 (gI (nO G q 8)) 800 q (R 3 0)) 802 q w) 803 q (rDep R a) 800 q = _
          rw [u2_k (by decide), u2_k (by decide), u2_s]
        · show u2 (gP (nO G q 8)) 801 q (rkOp G (B 1) a) 801 q = _
          rw [u2_s]
        · show u2 (u2 (u2 (gI (nO G q 8)) 800 q (R 3 0)) 802 q w) 803 q (rDep R a) 802 q = _
          rw [u2_k (by decide), u2_s]
        · show u2 (u2 (u2 (gI (nO G q 8)) 800 q (R 3 0)) 802 q w) 803 q (rDep R a) 803 q = _
          rw [u2_s]
        · show u2 (u2 (u2 (gI (nO G q 8)) 800 q (R 3 0)) 802 q w) 803 q (rDep R a) 804 q = _
          rw [u2_k (by decide), u2_k (by decide), u2_k (by decide)]
          exact nO_I0 (by decide)
      · have j2 : j < R 3 0 := by omega
        obtain ⟨o1, o2, o3, o4, o5, o6⟩ := h2 j j0 j2
        have u := iH.2 j.toNat (by omega)
        have hn : gK G (rkAt G (B 1) j) ≠ 0 := by rw [o1]; decide
        have N : ∀ f, gI (rkNewH G B R a w q) f (rkAt G (B 1) j) = gI G f (rkAt G (B 1) j) ∧ gP (rkNewH G B R a w q) f (rkAt G (B 1) j) = gP G f (rkAt G (B 1) j) := fun f => hfr.2.1 f _ hn List.not_mem_nil
        rw [rkAt_app h1 e1 j0 j2]
        unfold rkHo
        rw [l4 j.toNat (by omega), l5 j.toNat (by omega), E 6 (by decide) (by decide), dep _ u.1 (by omega), rkOp_app h1 e1 u.1 (by omega)]
        exact ⟨(hfr.1 _ hn).trans o1, (N 800).1.trans o2, (N 801).2.trans o3, (N 802).1.trans o4, (N 803).1.trans o5, (N 804).1.trans o6⟩
    · rw [E 7 (by decide) (by decide)] at j1
      rw [rkAt_same e2]
      have d := iAd j.toNat (by omega)
      obtain ⟨⟨o1, o2, o3, o4, o5, o6⟩, ⟨x, x1, x2, x3⟩, ⟨c1, c2, c3, c4, c5, c6⟩, ln⟩ := a2 j j0 j1
      have hn : gK G (rkAt G (B 2) j) ≠ 0 := by rw [o1]; decide
      have N : ∀ f, gI (rkNewH G B R a w q) f (rkAt G (B 2) j) = gI G f (rkAt G (B 2) j) ∧ gP (rkNewH G B R a w q) f (rkAt G (B 2) j) = gP G f (rkAt G (B 2) j) := fun f => hfr.2.1 f _ hn List.not_mem_nil
      have sg : ∀ k, rSign S j k = rSign R j k := fun k => by
        unfold rSign
        rw [E 8 (by decide) (by decide), E 9 (by decide) (by decide), rSignF_low iH l4 l5 (E 10 (by decide) (by decide)) (E 11 (by decide) (by decide)) j 17 _ _ (by omega) d.2.1.2]
      refine ⟨⟨(hfr.1 _ hn).trans o1, (N 300).1.trans o2, ?_, ?_, ?_, ?_⟩, ⟨x, (N 305).2.trans x1, (hfr.1 _ (by rw [x2]; decide)).trans x2, ?_⟩, ⟨?_, ?_, ?_, ?_, ?_, ?_⟩, ?_⟩
      · rw [E 8 (by decide) (by decide)]; exact (N 301).1.trans o3
      · rw [E 9 (by decide) (by decide), rkAt_app h1 e1 d.2.1.1 d.2.1.2]; exact (N 302).2.trans o4
      · rw [E 10 (by decide) (by decide)]; exact (N 303).1.trans o5
      · rw [E 11 (by decide) (by decide)]; exact (N 304).1.trans o6
      · rw [en x (fun z => by rw [z, k1] at x2; cases x2)]
        unfold rkTx
        simp only [sg]
        exact x3
      · rw [E 12 (by decide) (by decide), rkOp_same e2]; exact (N 306).2.trans c1
      · rw [E 13 (by decide) (by decide)]; exact (N 307).1.trans c2
      · unfold rkAll rkOrg rGate
        unfold rkAll rkOrg rGate at c3
        rw [E 8 (by decide) (by decide), E 9 (by decide) (by decide), E 10 (by decide) (by decide), E 14 (by decide) (by decide)]; exact (N 308).1.trans c3
      · rw [E 15 (by decide) (by decide)]; exact (N 309).1.trans c4
      · rw [E 16 (by decide) (by decide)]; exact (N 310).1.trans c5
      · rw [E 17 (by decide) (by decide)]; exact (N 311).1.trans c6
      · rw [E 19 (by decide) (by decide)]
        rcases ln with ⟨z1, z2⟩ | ⟨z1, cc, z2, y1, y2, y3, y4, y5, y6, y7⟩
        · exact Or.inl ⟨z1, (N 312).2.trans z2⟩
        · have hc : gK G cc ≠ 0 := by rw [y1]; decide
          have Nc : ∀ f, gI (rkNewH G B R a w q) f cc = gI G f cc ∧ gP (rkNewH G B R a w q) f cc = gP G f cc := fun f => hfr.2.1 f _ hc List.not_mem_nil
          refine Or.inr ⟨z1, cc, (N 312).2.trans z2, ?_⟩
          unfold rkLn
          rw [E 18 (by decide) (by decide), E 19 (by decide) (by decide), E 20 (by decide) (by decide), E 21 (by decide) (by decide), E 22 (by decide) (by decide), E 23 (by decide) (by decide), rkOp_app h1 e1 d.2.2.2.2.2.2.2.1 d.2.2.2.2.2.2.2.2]
          exact ⟨(hfr.1 _ hc).trans y1, (Nc 600).1.trans y2, (Nc 601).1.trans y3, (Nc 602).2.trans y4, (Nc 603).1.trans y5, (Nc 604).1.trans y6, (Nc 605).1.trans y7⟩
    · rw [E 24 (by decide) (by decide)] at j1
      obtain ⟨o1, o2, o3, o4⟩ := p2 j j0 j1
      have hn : gK G (rkAt G (B 3) j) ≠ 0 := by rw [o1]; decide
      have N : ∀ f, gI (rkNewH G B R a w q) f (rkAt G (B 3) j) = gI G f (rkAt G (B 3) j) ∧ gP (rkNewH G B R a w q) f (rkAt G (B 3) j) = gP G f (rkAt G (B 3) j) := fun f => hfr.2.1 f _ hn List.not_mem_nil
      rw [rkAt_same e3]
      unfold rkPa
      rw [E 25 (by decide) (by decide), E 26 (by decide) (by decide), E 27 (by decide) (by decide), rkAt_same e2, rkOp_same e3]
      exact ⟨(hfr.1 _ hn).trans o1, (N 1000).2.trans o2, (N 1001).2.trans o3, (N 1002).1.trans o4⟩
    · refine ⟨by rw [e33]; omega, fun j hj => ?_⟩
      rw [e33] at hj
      by_cases cj : j = (R 3 0).toNat
      · rw [cj, e4n]; omega
      · rw [e4 j cj]; exact iH.2 j (by omega)
    · unfold RA; rw [E 7 (by decide) (by decide)]; exact iA
    · intro j hj
      rw [E 7 (by decide) (by decide)] at hj
      have d := iAd j hj
      rw [E 7 (by decide) (by decide), E 8 (by decide) (by decide), E 9 (by decide) (by decide), E 10 (by decide) (by decide), E 11 (by decide) (by decide), E 12 (by decide) (by decide), E 13 (by decide) (by decide), E 14 (by decide) (by decide), E 20 (by decide) (by decide), e33]
      obtain ⟨d1, d2, d3, d4, d5, d6, d7, d8⟩ := d
      exact ⟨d1, ⟨d2.1, by omega⟩, d3, d4, d5, d6, d7, ⟨d8.1, by omega⟩⟩
    · intro j hj
      rw [e33] at hj
      by_cases cj : j = (R 3 0).toNat
      · rw [cj, e5n]; exact hw
      · rw [e5 j cj]; exact iHl j (by omega)
    · unfold RP; rw [E 24 (by decide) (by decide), E 25 (by decide) (by decide), E 7 (by decide) (by decide), E 26 (by decide) (by decide), E 27 (by decide) (by decide)]; exact iP
    · unfold RS; rw [E 7 (by decide) (by decide), E 18 (by decide) (by decide), E 19 (by decide) (by decide), E 21 (by decide) (by decide), E 23 (by decide) (by decide)]; exact iS
    · refine ⟨fun i j hi hj x4 x5 => ?_, by rw [E 7 (by decide) (by decide), E 8 (by decide) (by decide), E 9 (by decide) (by decide), E 10 (by decide) (by decide), E 11 (by decide) (by decide)]; exact iU.2.1, by rw [E 7 (by decide) (by decide), E 11 (by decide) (by decide)]; exact iU.2.2⟩
      rw [e33] at hi hj
      have no := rHostOf_none (R 3 0).toNat hno
      by_cases ci : i = (R 3 0).toNat
      · by_cases cj : j = (R 3 0).toNat
        · omega
        · rw [ci, e4n, e4 j cj] at x4
          rw [ci, e5n, e5 j cj] at x5
          exact absurd ⟨x4.symm, x5.symm⟩ (no j (by omega))
      · by_cases cj : j = (R 3 0).toNat
        · rw [cj, e4n, e4 i ci] at x4
          rw [cj, e5n, e5 i ci] at x5
          exact absurd ⟨x4, x5⟩ (no i (by omega))
        · rw [e4 i ci, e4 j cj] at x4
          rw [e5 i ci, e5 j cj] at x5
          exact iU.1 i j (by omega) (by omega) x4 x5
  have bb : gK G (B 0) ≠ 0 := by rw [b0]; decide
  have e8 := en (B 8) n18.symm
  refine ⟨hW', ?_, ⟨?_, ?_, ?_, hrr⟩, rkQ_fr hB hQ hfr (fun k z => by cases z) (by simpa using n19.symm) (fun f hf => E f (by omega) (by omega)), rkF_fr hB hF hfr (fun k z => by cases z) ⟨by simpa using n12.symm, by simpa using n15.symm⟩ (fun f hf => E f (by omega) (by omega)) (by rw [E 53 (by decide) (by decide)]; exact Int.le_refl _), by rw [E 2 (by decide) (by decide)]; exact ((hfr.2.1 1407 (B 0) bb List.not_mem_nil).1).trans s1, by rw [E 0 (by decide) (by decide)]; exact ((hfr.2.1 1408 (B 0) bb List.not_mem_nil).1).trans s2, by rw [E 53 (by decide) (by decide)]; exact ((hfr.2.1 1409 (B 0) bb List.not_mem_nil).1).trans s3⟩
  · refine rkC_R ?_ (fun f f1 f2 => E f (by omega) (by omega)) (by rw [E 1 (by decide) (by decide)]; exact Int.le_refl _)
    have kx : ∀ j, 0 ≤ j → j < R 34 0 → gK G (rkAt G (B 8) j) ≠ 0 := fun j j0 j1 => by rw [rkC_k hC j0 j1]; decide
    have I5 : ∀ j, 0 ≤ j → j < R 34 0 → gI (rkNewH G B R a w q) 505 (rkAt G (B 8) j) = gI G 505 (rkAt G (B 8) j) := fun j j0 j1 => (hfr.2.1 505 _ (kx j j0 j1) List.not_mem_nil).1
    have I9 : gI (rkNewH G B R a w q) 901 (B 6) = gI G 901 (B 6) := (hfr.2.1 901 _ (by rw [b6]; decide) List.not_mem_nil).1
    obtain ⟨c1, c2, c3, c4, c5, c6⟩ := hC
    refine ⟨by rw [e8]; exact c1, fun j j0 j1 => ?_, fun i j hi hj e => ?_, fun i j hi hj => ?_, by rw [I9]; exact c5, fun i i0 i1 => ?_⟩
    · rw [rkAt_same e8]
      have hn := kx j j0 j1
      obtain ⟨t, go, ⟨d1, ⟨c, d2, d3⟩, d4, d5, d6, d7⟩, d8⟩ := c2 j j0 j1
      have hc37 := (hJ.1.2 j.toNat (by omega)).1
      have N : ∀ f, gI (rkNewH G B R a w q) f (rkAt G (B 8) j) = gI G f (rkAt G (B 8) j) ∧ gP (rkNewH G B R a w q) f (rkAt G (B 8) j) = gP G f (rkAt G (B 8) j) := fun f => hfr.2.1 f _ hn List.not_mem_nil
      exact ⟨t, go, ⟨(hfr.1 _ hn).trans d1, ⟨c, (N 500).2.trans d2, rkCL_fr d3 hfr (fun k z => by cases z)⟩, by rw [rkAt_app h1 e1 hc37.1 hc37.2]; exact (N 501).2.trans d4, (N 502).1.trans d5, (N 503).1.trans d6, (N 504).1.trans d7⟩, d8⟩
    · rw [rkAt_same e8, rkAt_same e8] at e
      exact c3 i j hi hj e
    · rw [rkAt_same e8, rkAt_same e8, I5 i hi.1 hi.2, I5 j hj.1 hj.2]
      exact c4 i j hi hj
    · rw [rkAt_same e8, I5 i i0 i1, I9]
      exact c6 i i0 i1
  · obtain ⟨y1, y2⟩ := hJ.1
    refine ⟨by rw [E 34 (by decide) (by decide)]; exact y1, fun j hj => ?_⟩
    rw [E 34 (by decide) (by decide)] at hj
    rw [E 37 (by decide) (by decide), E 39 (by decide) (by decide), E 35 (by decide) (by decide), E 36 (by decide) (by decide), e33]
    obtain ⟨z1, z2⟩ := y2 j hj
    exact ⟨⟨z1.1, by omega⟩, z2⟩
  · unfold rkCd
    rw [E 34 (by decide) (by decide), E 43 (by decide) (by decide)]
    exact hJ.2.1
  · unfold rkCu
    rw [E 34 (by decide) (by decide), E 35 (by decide) (by decide), E 37 (by decide) (by decide), E 39 (by decide) (by decide), E 41 (by decide) (by decide)]
    exact hJ.2.2.1
end FACES7
