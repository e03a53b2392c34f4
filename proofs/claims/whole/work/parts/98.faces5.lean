/-! faces: a page is told -/
section FACES5
variable {G : GT} {B : Nat → Nat} {R T : RT}
theorem rkZ_page {a b c : Int} {q : Nat} (hZ : rkZ G B R) (h0 : 0 ≤ a ∧ a < R 7 0) (hb : -1 ≤ b ∧ b < R 24 0) (hc : 0 ≤ c ∧ c ≤ 4) (h8 : R 24 0 < 8) (hq : gK G q = 0) (hT : ∀ k : Nat, k < 61 → T k = R k) (hr : ∀ k j, InR (T k j)) : rkZ (rkNewP G B a b c q) B (u2 (u2 (u2 (u2 T 25 (R 24 0).toNat a) 26 (R 24 0).toNat b) 27 (R 24 0).toNat c) 24 0 (R 24 0 + 1)) := by
  have hZ0 := hZ
  obtain ⟨hW, hC, hJ, hQ, hF, s1, s2, s3⟩ := hZ
  obtain ⟨hB, hH, hA, ⟨p1, p2⟩, iH, iA, iAd, iHl, iP, iS, -, iU⟩ := id hW
  obtain ⟨-, ⟨k1, k2, k3, -⟩, -, ⟨n12, n13, -, -, -, -, n23, -⟩⟩ := id hB
  have h7 := iA.2
  have h24 := iP.1
  have hfr : rkFr [] [B 3] G (rkNewP G B a b c q) := fr_sL List.mem_cons_self (fr_sIq hq (fr_sPq hq (by decide) (fr_sPq hq (by decide) (fr_nO hq (by decide) fr_rfl))))
  have e1 : gL (rkNewP G B a b c q) (B 1) = gL G (B 1) := sL_n n13
  have e2 : gL (rkNewP G B a b c q) (B 2) = gL G (B 2) := sL_n n23
  have e3 : gL (rkNewP G B a b c q) (B 3) = gL G (B 3) ++ [q] := sL_s
  have h22 : ∀ x ∈ [B 3], gK G x ≠ 22 := fun x z => by rw [List.mem_singleton.mp z, k3]; decide
  have E : ∀ f : Nat, f < 61 → f < 24 ∨ 27 < f → u2 (u2 (u2 (u2 T 25 (R 24 0).toNat a) 26 (R 24 0).toNat b) 27 (R 24 0).toNat c) 24 0 (R 24 0 + 1) f = R f := fun f f1 f2 => by
    funext j
    rw [u2_k (by omega), u2_k (by omega), u2_k (by omega), u2_k (by omega), hT f f1]
  have ej : ∀ f j : Nat, 25 ≤ f → f ≤ 27 → j ≠ (R 24 0).toNat → u2 (u2 (u2 (u2 T 25 (R 24 0).toNat a) 26 (R 24 0).toNat b) 27 (R 24 0).toNat c) 24 0 (R 24 0 + 1) f j = R f j := fun f j f1 f2 jn => by
    rw [u2_k (by omega), u2_a jn, u2_a jn, u2_a jn, hT f (by omega)]
  have e24 : u2 (u2 (u2 (u2 T 25 (R 24 0).toNat a) 26 (R 24 0).toNat b) 27 (R 24 0).toNat c) 24 0 (R 24 0 + 1) 24 0 = R 24 0 + 1 := u2_s
  have e25 : u2 (u2 (u2 (u2 T 25 (R 24 0).toNat a) 26 (R 24 0).toNat b) 27 (R 24 0).toNat c) 24 0 (R 24 0 + 1) 25 (R 24 0).toNat = a := by rw [u2_k (by decide), u2_k (by decide), u2_k (by decide), u2_s]
  have e26 : u2 (u2 (u2 (u2 T 25 (R 24 0).toNat a) 26 (R 24 0).toNat b) 27 (R 24 0).toNat c) 24 0 (R 24 0 + 1) 26 (R 24 0).toNat = b := by rw [u2_k (by decide), u2_k (by decide), u2_s]
  have e27 : u2 (u2 (u2 (u2 T 25 (R 24 0).toNat a) 26 (R 24 0).toNat b) 27 (R 24 0).toNat c) 24 0 (R 24 0 + 1) 27 (R 24 0).toNat = c := by rw [u2_k (by decide), u2_s]
  have hrr := InR_u (f := 24) (i := 0) (InR_u (f := 27) (i := (R 24 0).toNat) (InR_u (f := 26) (i := (R 24 0).toNat) (InR_u (f := 25) (i := (R 24 0).toNat) hr (v := a) ⟨by omega, by omega⟩) (v := b) ⟨by omega, by omega⟩) (v := c) ⟨by omega, by omega⟩) (v := R 24 0 + 1) ⟨by omega, by omega⟩
  generalize hSd : u2 (u2 (u2 (u2 T 25 (R 24 0).toNat a) 26 (R 24 0).toNat b) 27 (R 24 0).toNat c) 24 0 (R 24 0 + 1) = S at *
  obtain ⟨h1, h2⟩ := rkH_fr hH hfr (fun k z => by cases z) e1
  obtain ⟨a1, a2⟩ := rkA_fr hA hfr (fun k z => by cases z) e1 e2 h22
  have hW' : rkW (rkNewP G B a b c q) B S := by
    refine ⟨rkB_fr hB hfr (fun k z => by cases z), ⟨by rw [E 3 (by decide) (by decide)]; exact h1, fun j j0 j1 => ?_⟩, ⟨by rw [E 7 (by decide) (by decide)]; exact a1, fun j j0 j1 => ?_⟩, ⟨?_, fun j j0 j1 => ?_⟩, ?_, ?_, ?_, ?_, ?_, ?_, hrr, ?_⟩
    · rw [E 3 (by decide) (by decide)] at j1
      have := h2 j j0 j1
      unfold rkHo rDep
      unfold rkHo rDep at this
      rw [E 4 (by decide) (by decide), E 5 (by decide) (by decide), E 6 (by decide) (by decide), rDepth_eq (E 4 (by decide) (by decide))]
      exact this
    · rw [E 7 (by decide) (by decide)] at j1
      have := a2 j j0 j1
      unfold rkAd rkTx rkAll rkOrg rGate rkLn
      unfold rkAd rkTx rkAll rkOrg rGate rkLn at this
      simp only [rSign_eq (fun f f1 f2 => E f (by omega) (by omega))]
      rw [E 8 (by decide) (by decide), E 9 (by decide) (by decide), E 10 (by decide) (by decide), E 11 (by decide) (by decide), E 12 (by decide) (by decide), E 13 (by decide) (by decide), E 14 (by decide) (by decide), E 15 (by decide) (by decide), E 16 (by decide) (by decide), E 17 (by decide) (by decide), E 18 (by decide) (by decide), E 19 (by decide) (by decide), E 20 (by decide) (by decide), E 21 (by decide) (by decide), E 22 (by decide) (by decide), E 23 (by decide) (by decide)]
      exact this
    · rw [e3, e24, List.length_append]
      show (((gL G (B 3)).length + 1 : Nat) : Int) = _
      omega
    · rw [e24] at j1
      by_cases cj : j = R 24 0
      · rw [cj, rkAt_new p1 e3]
        unfold rkPa
        rw [e25, e26, e27, rkAt_same e2, rkOp_app p1 e3 hb.1 hb.2]
        refine ⟨nO_q, ?_, ?_, ?_⟩
        · show u2 (u2 (gP (nO G q 10)) 1000 q (some (rkAt G (B 2) a))) 1001 q (rkOp G (B 3) b) 1000 q = _
          rw [u2_k (by decide), u2_s]
        · show u2 (u2 (gP (nO G q 10)) 1000 q (some (rkAt G (B 2) a))) 1001 q (rkOp G (B 3) b) 1001 q = _
          rw [u2_s]
        · show u2 (gI (nO G q 10)) 1002 q c 1002 q = _
          rw [u2_s]
      · have j2 : j < R 24 0 := by omega
        obtain ⟨o1, o2, o3, o4⟩ := p2 j j0 j2
        have u := iP.2 j.toNat (by omega)
        have hn : gK G (rkAt G (B 3) j) ≠ 0 := by rw [o1]; decide
        have jn : j.toNat ≠ (R 24 0).toNat := by omega
        rw [rkAt_app p1 e3 j0 j2]
        unfold rkPa
        rw [ej 25 _ (by decide) (by decide) jn, ej 26 _ (by decide) (by decide) jn, ej 27 _ (by decide) (by decide) jn, rkAt_same e2, rkOp_app p1 e3 u.2.1.1 (by omega)]
        exact ⟨(hfr.1 _ hn).trans o1, ((hfr.2.1 1000 _ hn List.not_mem_nil).2).trans o2, ((hfr.2.1 1001 _ hn List.not_mem_nil).2).trans o3, ((hfr.2.1 1002 _ hn List.not_mem_nil).1).trans o4⟩
    · unfold RH; rw [E 3 (by decide) (by decide), E 4 (by decide) (by decide)]; exact iH
    · unfold RA; rw [E 7 (by decide) (by decide)]; exact iA
    · unfold RAd; rw [E 7 (by decide) (by decide), E 8 (by decide) (by decide), E 9 (by decide) (by decide), E 10 (by decide) (by decide), E 11 (by decide) (by decide), E 12 (by decide) (by decide), E 13 (by decide) (by decide), E 14 (by decide) (by decide), E 20 (by decide) (by decide), E 3 (by decide) (by decide)]; exact iAd
    · unfold RHl; rw [E 3 (by decide) (by decide), E 5 (by decide) (by decide)]; exact iHl
    · refine ⟨by rw [e24]; omega, fun j hj => ?_⟩
      rw [e24] at hj
      rw [E 7 (by decide) (by decide)]
      by_cases cj : j = (R 24 0).toNat
      · rw [cj, e25, e26, e27]
        exact ⟨h0, ⟨hb.1, by omega⟩, hc⟩
      · rw [ej 25 j (by decide) (by decide) cj, ej 26 j (by decide) (by decide) cj, ej 27 j (by decide) (by decide) cj]
        exact iP.2 j (by omega)
    · unfold RS; rw [E 7 (by decide) (by decide), E 18 (by decide) (by decide), E 19 (by decide) (by decide), E 21 (by decide) (by decide), E 23 (by decide) (by decide)]; exact iS
    · unfold rkU; rw [E 3 (by decide) (by decide), E 4 (by decide) (by decide), E 5 (by decide) (by decide), E 7 (by decide) (by decide), E 8 (by decide) (by decide), E 9 (by decide) (by decide), E 10 (by decide) (by decide), E 11 (by decide) (by decide)]; exact iU
  have hn : B 1 ≠ B 3 ∧ B 2 ≠ B 3 ∧ B 3 ≠ B 5 ∧ B 3 ≠ B 8 ∧ B 3 ≠ B 9 := ⟨n13, n23, hB.2.2.2.2.2.2.2.2.2.2.2.2.2.2.2.1, hB.2.2.2.2.2.2.2.2.2.2.2.2.2.2.2.2.1, hB.2.2.2.2.2.2.2.2.2.2.2.2.2.2.2.2.2.1⟩
  exact rkZ_face hZ0 hW' hfr (fun k z => by cases z) ⟨by simpa using hn.1, by simpa using hn.2.1, by simpa using (fun z => hn.2.2.1 z.symm), by simpa using (fun z => hn.2.2.2.1 z.symm), by simpa using (fun z => hn.2.2.2.2 z.symm)⟩ (fun k hk => E k (by omega) (by omega))
end FACES5
