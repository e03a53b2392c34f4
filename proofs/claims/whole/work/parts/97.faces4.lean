/-! faces: the toggle of a suffix -/
section FACES4
variable {G : GT} {B : Nat → Nat} {R T : RT}
theorem rkZ_suf {i v : Int} (hZ : rkZ G B R) (h0 : 0 ≤ i ∧ i < R 3 0) (hv : InR v) (hT : ∀ k : Nat, k < 61 → T k = R k) (hr : ∀ k j, InR (T k j)) : rkZ (sI G 804 (rkAt G (B 1) i) v) B (u2 T 6 i.toNat v) := by
  have hZ0 := hZ
  obtain ⟨hW, hC, hJ, hQ, hF, s1, s2, s3⟩ := hZ
  obtain ⟨hB, ⟨h1, h2⟩, ⟨a1, a2⟩, ⟨p1, p2⟩, iH, iA, iAd, iHl, iP, iS, -, iU⟩ := id hW
  have E : ∀ f : Nat, f < 61 → f ≠ 6 → u2 T 6 i.toNat v f = R f := fun f f1 f2 => by
    funext j
    rw [u2_k f2, hT f f1]
  have hrr := InR_u (f := 6) (i := i.toNat) hr hv
  have F : ∀ k x, k ≠ 804 → gI (sI G 804 (rkAt G (B 1) i) v) k x = gI G k x := fun k x hk => by rw [rk_II, u2_k hk]
  have hW' : rkW (sI G 804 (rkAt G (B 1) i) v) B (u2 T 6 i.toNat v) := by
    refine ⟨hB, ⟨by rw [E 3 (by decide) (by decide)]; exact h1, fun j j0 j1 => ?_⟩, ⟨by rw [E 7 (by decide) (by decide)]; exact a1, fun j j0 j1 => ?_⟩, ⟨by rw [E 24 (by decide) (by decide)]; exact p1, fun j j0 j1 => ?_⟩, ?_, ?_, ?_, ?_, ?_, ?_, hrr, ?_⟩
    · rw [E 3 (by decide) (by decide)] at j1
      obtain ⟨o1, o2, o3, o4, o5, o6⟩ := h2 j j0 j1
      have e : rDep (u2 T 6 i.toNat v) (u2 T 6 i.toNat v 4 j.toNat) = rDep R (R 4 j.toNat) := by
        unfold rDep
        rw [E 4 (by decide) (by decide), rDepth_eq (E 4 (by decide) (by decide))]
      refine ⟨o1, (F 800 _ (by decide)).trans o2, ?_, ?_, ?_, ?_⟩
      · rw [E 4 (by decide) (by decide)]; exact o3
      · rw [E 5 (by decide) (by decide)]; exact (F 802 _ (by decide)).trans o4
      · rw [e]; exact (F 803 _ (by decide)).trans o5
      · by_cases c : j = i
        · subst c
          rw [u2_s, rk_II]
          exact u2_s
        · have hne : rkAt G (B 1) j ≠ rkAt G (B 1) i := fun z => c (rkAt_inj (f := 800) (fun k k0 k1 => (h2 k k0 k1).2.1) ⟨j0, j1⟩ h0 z)
          rw [u2_a (by omega), hT 6 (by decide), rk_II]
          exact (u2_a hne).trans o6
    · rw [E 7 (by decide) (by decide)] at j1
      have := a2 j j0 j1
      have sg : ∀ k, rSign (u2 T 6 i.toNat v) j k = rSign R j k := fun k => by
        unfold rSign
        rw [E 8 (by decide) (by decide), E 9 (by decide) (by decide)]
        simp only [rSignF_eq (E 4 (by decide) (by decide)) (E 5 (by decide) (by decide)) (E 10 (by decide) (by decide)) (E 11 (by decide) (by decide))]
      unfold rkAd rkTx rkAll rkOrg rGate rkLn
      unfold rkAd rkTx rkAll rkOrg rGate rkLn at this
      simp only [sg]
      rw [E 8 (by decide) (by decide), E 9 (by decide) (by decide), E 10 (by decide) (by decide), E 11 (by decide) (by decide), E 12 (by decide) (by decide), E 13 (by decide) (by decide), E 14 (by decide) (by decide), E 15 (by decide) (by decide), E 16 (by decide) (by decide), E 17 (by decide) (by decide), E 18 (by decide) (by decide), E 19 (by decide) (by decide), E 20 (by decide) (by decide), E 21 (by decide) (by decide), E 22 (by decide) (by decide), E 23 (by decide) (by decide)]
      obtain ⟨⟨o1, o2, o3, o4, o5, o6⟩, tx, ⟨c1, c2, c3, c4, c5, c6⟩, ln⟩ := this
      refine ⟨⟨o1, (F 300 _ (by decide)).trans o2, (F 301 _ (by decide)).trans o3, o4, (F 303 _ (by decide)).trans o5, (F 304 _ (by decide)).trans o6⟩, tx, ⟨c1, (F 307 _ (by decide)).trans c2, (F 308 _ (by decide)).trans c3, (F 309 _ (by decide)).trans c4, (F 310 _ (by decide)).trans c5, (F 311 _ (by decide)).trans c6⟩, ?_⟩
      rcases ln with q | ⟨q, cc, q1, z1, z2, z3, z4, z5, z6, z7⟩
      · exact Or.inl q
      · exact Or.inr ⟨q, cc, q1, z1, (F 600 _ (by decide)).trans z2, (F 601 _ (by decide)).trans z3, z4, (F 603 _ (by decide)).trans z5, (F 604 _ (by decide)).trans z6, (F 605 _ (by decide)).trans z7⟩
    · rw [E 24 (by decide) (by decide)] at j1
      obtain ⟨o1, o2, o3, o4⟩ := p2 j j0 j1
      unfold rkPa
      rw [E 25 (by decide) (by decide), E 26 (by decide) (by decide), E 27 (by decide) (by decide)]
      exact ⟨o1, o2, o3, (F 1002 _ (by decide)).trans o4⟩
    · unfold RH; rw [E 3 (by decide) (by decide), E 4 (by decide) (by decide)]; exact iH
    · unfold RA; rw [E 7 (by decide) (by decide)]; exact iA
    · unfold RAd; rw [E 7 (by decide) (by decide), E 8 (by decide) (by decide), E 9 (by decide) (by decide), E 10 (by decide) (by decide), E 11 (by decide) (by decide), E 12 (by decide) (by decide), E 13 (by decide) (by decide), E 14 (by decide) (by decide), E 20 (by decide) (by decide), E 3 (by decide) (by decide)]; exact iAd
    · unfold RHl; rw [E 3 (by decide) (by decide), E 5 (by decide) (by decide)]; exact iHl
    · unfold RP; rw [E 24 (by decide) (by decide), E 25 (by decide) (by decide), E 7 (by decide) (by decide), E 26 (by decide) (by decide), E 27 (by decide) (by decide)]; exact iP
    · unfold RS; rw [E 7 (by decide) (by decide), E 18 (by decide) (by decide), E 19 (by decide) (by decide), E 21 (by decide) (by decide), E 23 (by decide) (by decide)]; exact iS
    · unfold rkU; rw [E 3 (by decide) (by decide), E 4 (by decide) (by decide), E 5 (by decide) (by decide), E 7 (by decide) (by decide), E 8 (by decide) (by decide), E 9 (by decide) (by decide), E 10 (by decide) (by decide), E 11 (by decide) (by decide)]; exact iU
  exact rkZ_face hZ0 hW' (ks := [804]) (ls := []) (fr_sI (by decide) (by decide) fr_rfl) (by decide) ⟨List.not_mem_nil, List.not_mem_nil, List.not_mem_nil, List.not_mem_nil, List.not_mem_nil⟩ (fun k hk => E k (by omega) (by omega))
end FACES4
