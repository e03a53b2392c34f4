/-! faces: allow, the toggle of blocking, what failed -/
section FACES2
variable {ks ls : List Nat} {G G' : GT} {B : Nat → Nat} {R S T : RT}
theorem rkZ_all {a w c s t : Int} (hZ : rkZ G B R) (h0 : 0 ≤ a ∧ a < R 7 0) (hw : -3 ≤ w ∧ w < R 7 0) (hc : c = 0 ∨ c = 1) (hs : 0 ≤ s ∧ s ≤ 3) (ht : 0 ≤ t ∧ t ≤ 1000) (hT : ∀ f : Nat, f < 61 → T f = R f) (hr : ∀ k j, InR (T k j)) : rkZ (sI (sI (sI (sI G 308 (rkAt G (B 2) a) (if w < 0 then w else rkOrg R w)) 309 (rkAt G (B 2) a) c) 310 (rkAt G (B 2) a) s) 311 (rkAt G (B 2) a) t) B (u2 (u2 (u2 (u2 T 14 a.toNat w) 15 a.toNat c) 16 a.toNat s) 17 a.toNat t) := by
  have hW := hZ.1
  obtain ⟨hB, hH, hA, hP, iH, iA, iAd, iHl, iP, iS, -, iU⟩ := id hW
  have h7 := iA.2
  obtain ⟨o, tx, ⟨c1, c2, c3, c4, c5, c6⟩, ln⟩ := hA.2 a h0.1 h0.2
  have eo : ∀ f : Nat, f < 61 → f < 14 ∨ 17 < f → u2 (u2 (u2 (u2 T 14 a.toNat w) 15 a.toNat c) 16 a.toNat s) 17 a.toNat t f = R f := fun f f1 f2 => by
    funext j
    rw [u2_k (by omega), u2_k (by omega), u2_k (by omega), u2_k (by omega), hT f f1]
  have ej : ∀ f j : Nat, f < 61 → j ≠ a.toNat → u2 (u2 (u2 (u2 T 14 a.toNat w) 15 a.toNat c) 16 a.toNat s) 17 a.toNat t f j = R f j := fun f j f1 jn => by
    rw [u2_a jn, u2_a jn, u2_a jn, u2_a jn, hT f f1]
  have e14 : u2 (u2 (u2 (u2 T 14 a.toNat w) 15 a.toNat c) 16 a.toNat s) 17 a.toNat t 14 a.toNat = w := by rw [u2_k (by decide), u2_k (by decide), u2_k (by decide), u2_s]
  have e15 : u2 (u2 (u2 (u2 T 14 a.toNat w) 15 a.toNat c) 16 a.toNat s) 17 a.toNat t 15 a.toNat = c := by rw [u2_k (by decide), u2_k (by decide), u2_s]
  have e16 : u2 (u2 (u2 (u2 T 14 a.toNat w) 15 a.toNat c) 16 a.toNat s) 17 a.toNat t 16 a.toNat = s := by rw [u2_k (by decide), u2_s]
  have e17 : u2 (u2 (u2 (u2 T 14 a.toNat w) 15 a.toNat c) 16 a.toNat s) 17 a.toNat t 17 a.toNat = t := u2_s
  have hW' : rkW (sI (sI (sI (sI G 308 (rkAt G (B 2) a) (if w < 0 then w else rkOrg R w)) 309 (rkAt G (B 2) a) c) 310 (rkAt G (B 2) a) s) 311 (rkAt G (B 2) a) t) B (u2 (u2 (u2 (u2 T 14 a.toNat w) 15 a.toNat c) 16 a.toNat s) 17 a.toNat t) := by
    refine rkW_addr hW h0 (fun _ _ => rfl) (fun _ _ => rfl) (fun k x _ hn => ⟨?_, rfl⟩) (fun k hk => ⟨?_, rfl⟩) (fun f f1 f2 f3 => eo f (by omega) (by omega)) (fun f j f1 jn => ej f j (by omega) jn) ⟨⟨?_, ?_, ?_, ?_, ?_, ?_⟩, ?_⟩ ?_ ?_ (InR_u (InR_u (InR_u (InR_u hr ⟨by omega, by omega⟩) ⟨by omega, by omega⟩) ⟨by omega, by omega⟩) ⟨by omega, by omega⟩)
    · rw [rk_II, u2_a hn, rk_II, u2_a hn, rk_II, u2_a hn, rk_II, u2_a hn]
    · rw [rk_II, u2_k (by omega), rk_II, u2_k (by omega), rk_II, u2_k (by omega), rk_II, u2_k (by omega)]
    · rw [eo 12 (by decide) (by decide)]; exact c1
    · rw [eo 13 (by decide) (by decide), rk_II, u2_k (by decide), rk_II, u2_k (by decide), rk_II, u2_k (by decide), rk_II, u2_k (by decide)]; exact c2
    · unfold rkAll
      rw [e14, rkOrg_eq (fun f f1 f2 => eo f (by omega) (by omega)), rk_II, u2_k (by decide), rk_II, u2_k (by decide), rk_II, u2_k (by decide), rk_II, u2_s]
    · rw [e15, rk_II, u2_k (by decide), rk_II, u2_k (by decide), rk_II, u2_s]
    · rw [e16, rk_II, u2_k (by decide), rk_II, u2_s]
    · rw [e17, rk_II, u2_s]
    · rw [eo 19 (by decide) (by decide)]
      unfold rkLn
      rw [eo 18 (by decide) (by decide), eo 19 (by decide) (by decide), eo 20 (by decide) (by decide), eo 21 (by decide) (by decide), eo 22 (by decide) (by decide), eo 23 (by decide) (by decide)]
      rcases ln with q | ⟨q, cc, q1, q2⟩
      · exact Or.inl q
      · refine Or.inr ⟨q, cc, q1, q2.1, ?_, ?_, q2.2.2.2.1, ?_, ?_, ?_⟩
        · rw [rk_II, u2_k (by decide), rk_II, u2_k (by decide), rk_II, u2_k (by decide), rk_II, u2_k (by decide)]; exact q2.2.1
        · rw [rk_II, u2_k (by decide), rk_II, u2_k (by decide), rk_II, u2_k (by decide), rk_II, u2_k (by decide)]; exact q2.2.2.1
        · rw [rk_II, u2_k (by decide), rk_II, u2_k (by decide), rk_II, u2_k (by decide), rk_II, u2_k (by decide)]; exact q2.2.2.2.2.1
        · rw [rk_II, u2_k (by decide), rk_II, u2_k (by decide), rk_II, u2_k (by decide), rk_II, u2_k (by decide)]; exact q2.2.2.2.2.2.1
        · rw [rk_II, u2_k (by decide), rk_II, u2_k (by decide), rk_II, u2_k (by decide), rk_II, u2_k (by decide)]; exact q2.2.2.2.2.2.2
    · intro i hi
      rw [eo 7 (by decide) (by decide)] at hi
      obtain ⟨d1, d2, d3, d4, d5, d6, d7, d8⟩ := iAd i hi
      rw [eo 7 (by decide) (by decide), eo 3 (by decide) (by decide), eo 8 (by decide) (by decide), eo 9 (by decide) (by decide), eo 10 (by decide) (by decide), eo 11 (by decide) (by decide), eo 12 (by decide) (by decide), eo 13 (by decide) (by decide), eo 20 (by decide) (by decide)]
      by_cases ci : i = a.toNat
      · rw [ci, e14]
        rw [ci] at d1 d2 d3 d4 d5 d6 d8
        exact ⟨d1, d2, d3, d4, d5, d6, hw, d8⟩
      · rw [ej 14 i (by decide) ci]
        exact ⟨d1, d2, d3, d4, d5, d6, d7, d8⟩
    · unfold RS
      rw [eo 7 (by decide) (by decide), eo 18 (by decide) (by decide), eo 19 (by decide) (by decide), eo 21 (by decide) (by decide), eo 23 (by decide) (by decide)]
      exact iS
  exact rkZ_face hZ hW' (ks := [308, 309, 310, 311]) (ls := []) (fr_sI (by decide) (by decide) (fr_sI (by decide) (by decide) (fr_sI (by decide) (by decide) (fr_sI (by decide) (by decide) fr_rfl)))) (by decide) ⟨List.not_mem_nil, List.not_mem_nil, List.not_mem_nil, List.not_mem_nil, List.not_mem_nil⟩ (fun f hf => eo f (by omega) (by omega))
/-- no row but what is told of failing changes -/
theorem rkZ_rF {c : Int} (hZ : rkZ G B R) (hc : InR c) : rkZ G B (rF R c) := rkZ_R hZ (fun f hf => by
  funext j
  exact u2_k (by omega)) (InR_u hZ.1.2.2.2.2.2.2.2.2.2.2.1 hc)
/-- the blocking of what is foreign -/
theorem rkZ_tog {v : Int} (hZ : rkZ G B R) (hv : InR v) : rkZ (sI G 1407 (B 0) v) B (u2 R 2 0 v) := by
  obtain ⟨hW, hC, hJ, hQ, hF, s1, s2, s3⟩ := hZ
  have hf : rkFr [1407] [] G (sI G 1407 (B 0) v) := fr_sI (by decide) (by decide) fr_rfl
  have E : ∀ f : Nat, f ≠ 2 → u2 R 2 0 v f = R f := fun f hf => funext fun j => u2_k hf
  have hr := InR_u (f := 2) (i := 0) hW.2.2.2.2.2.2.2.2.2.2.1 hv
  obtain ⟨hB, ⟨h1, h2⟩, ⟨a1, a2⟩, ⟨p1, p2⟩, iH, iA, iAd, iHl, iP, iS, -, iU⟩ := rkW_fr hW hf (by decide) ⟨List.not_mem_nil, List.not_mem_nil, List.not_mem_nil⟩ (fun x z => by cases z)
  have hW' : rkW (sI G 1407 (B 0) v) B (u2 R 2 0 v) := by
    refine ⟨hB, ⟨by rw [E 3 (by decide)]; exact h1, fun i i0 i1 => ?_⟩, ⟨by rw [E 7 (by decide)]; exact a1, fun i i0 i1 => ?_⟩, ⟨by rw [E 24 (by decide)]; exact p1, fun i i0 i1 => ?_⟩, ?_, ?_, ?_, ?_, ?_, ?_, hr, ?_⟩
    · rw [E 3 (by decide)] at i1
      have := h2 i i0 i1
      unfold rkHo rDep
      unfold rkHo rDep at this
      rw [E 4 (by decide), E 5 (by decide), E 6 (by decide), rDepth_eq (E 4 (by decide))]
      exact this
    · rw [E 7 (by decide)] at i1
      have := a2 i i0 i1
      unfold rkAd rkTx rkAll rkOrg rGate rkLn
      unfold rkAd rkTx rkAll rkOrg rGate rkLn at this
      simp only [rSign_eq (fun f f1 _ => E f (by omega))]
      rw [E 8 (by decide), E 9 (by decide), E 10 (by decide), E 11 (by decide), E 12 (by decide), E 13 (by decide), E 14 (by decide), E 15 (by decide), E 16 (by decide), E 17 (by decide), E 18 (by decide), E 19 (by decide), E 20 (by decide), E 21 (by decide), E 22 (by decide), E 23 (by decide)]
      exact this
    · rw [E 24 (by decide)] at i1
      have := p2 i i0 i1
      unfold rkPa
      unfold rkPa at this
      rw [E 25 (by decide), E 26 (by decide), E 27 (by decide)]
      exact this
    · unfold RH; rw [E 3 (by decide), E 4 (by decide)]; exact iH
    · unfold RA; rw [E 7 (by decide)]; exact iA
    · unfold RAd; rw [E 7 (by decide), E 8 (by decide), E 9 (by decide), E 10 (by decide), E 11 (by decide), E 12 (by decide), E 13 (by decide), E 14 (by decide), E 20 (by decide), E 3 (by decide)]; exact iAd
    · unfold RHl; rw [E 3 (by decide), E 5 (by decide)]; exact iHl
    · unfold RP; rw [E 24 (by decide), E 25 (by decide), E 7 (by decide), E 26 (by decide), E 27 (by decide)]; exact iP
    · unfold RS; rw [E 7 (by decide), E 18 (by decide), E 19 (by decide), E 21 (by decide), E 23 (by decide)]; exact iS
    · unfold rkU; rw [E 3 (by decide), E 4 (by decide), E 5 (by decide), E 7 (by decide), E 8 (by decide), E 9 (by decide), E 10 (by decide), E 11 (by decide)]; exact iU
  refine ⟨hW', rkC_R (rkC_fr hW.1 hC hf (by decide) List.not_mem_nil List.not_mem_nil) (fun f f1 f2 => E f (by omega)) (by rw [E 1 (by decide)]; exact Int.le_refl _), ⟨?_, ?_, ?_, hr⟩, rkQ_fr hW.1 hQ hf (by decide) List.not_mem_nil (fun f hf => E f (by omega)), rkF_fr hW.1 hF hf (by decide) ⟨List.not_mem_nil, List.not_mem_nil⟩ (fun f hf => E f (by omega)) (by rw [E 53 (by decide)]; exact Int.le_refl _), ?_, ?_, ?_⟩
  · unfold RC; rw [E 34 (by decide), E 37 (by decide), E 3 (by decide), E 39 (by decide), E 35 (by decide), E 36 (by decide)]; exact hJ.1
  · unfold rkCd; rw [E 34 (by decide), E 43 (by decide)]; exact hJ.2.1
  · unfold rkCu; rw [E 34 (by decide), E 35 (by decide), E 37 (by decide), E 39 (by decide), E 41 (by decide)]; exact hJ.2.2.1
  · rw [u2_s]; exact u2_s
  · rw [E 0 (by decide), rk_II, u2_k (by decide)]; exact s2
  · rw [E 53 (by decide), rk_II, u2_k (by decide)]; exact s3
end FACES2
