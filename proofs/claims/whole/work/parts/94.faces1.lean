/-! faces: redirect, allow -/
section FACES1
variable {ks ls : List Nat} {G G' : GT} {B : Nat → Nat} {R S T : RT}
theorem rkZ_face (hZ : rkZ G B R) (hW' : rkW G' B S) (h : rkFr ks ls G G') (hks : ∀ k ∈ ks, k / 100 = 3 ∨ k / 100 = 8 ∨ k / 100 = 10) (hls : B 1 ∉ ls ∧ B 2 ∉ ls ∧ B 5 ∉ ls ∧ B 8 ∉ ls ∧ B 9 ∉ ls) (hS : ∀ f : Nat, f = 0 ∨ f = 1 ∨ f = 2 ∨ f = 3 ∨ f = 7 ∨ (34 ≤ f ∧ f ≤ 60) → S f = R f) : rkZ G' B S := by
  obtain ⟨hW, hC, hJ, hQ, hF, s1, s2, s3⟩ := hZ
  have b0 : gK G (B 0) ≠ 0 := by rw [hW.1.1.1]; decide
  have N : ∀ k, 1400 ≤ k → k ∉ ks := fun k k1 z => by
    have := hks k z
    omega
  have hr := hW'.2.2.2.2.2.2.2.2.2.2.1
  refine ⟨hW', rkC_R (rkC_fr hW.1 hC h (fun k hk => ?_) hls.1 hls.2.2.2.1) (fun f f1 f2 => hS f (by omega)) (by rw [hS 1 (by omega)]; exact Int.le_refl _), ⟨?_, ?_, ?_, hr⟩, rkQ_fr hW.1 hQ h (fun k hk => by have := hks k hk; omega) hls.2.2.2.2 (fun f hf => hS f (by omega)), rkF_fr hW.1 hF h (fun k hk => by have := hks k hk; omega) ⟨hls.2.1, hls.2.2.1⟩ (fun f hf => hS f (by omega)) (by rw [hS 53 (by omega)]; exact Int.le_refl _), by rw [hS 2 (by omega)]; exact ((h.2.1 1407 (B 0) b0 (N 1407 (by decide))).1).trans s1, by rw [hS 0 (by omega)]; exact ((h.2.1 1408 (B 0) b0 (N 1408 (by decide))).1).trans s2, by rw [hS 53 (by omega)]; exact ((h.2.1 1409 (B 0) b0 (N 1409 (by decide))).1).trans s3⟩
  · unfold rkOc
    rcases hks k hk with q | q | q <;> (rw [q]; simp; omega)
  · unfold RC
    rw [hS 34 (by omega), hS 37 (by omega), hS 3 (by omega), hS 39 (by omega), hS 35 (by omega), hS 36 (by omega)]
    exact hJ.1
  · unfold rkCd
    rw [hS 34 (by omega), hS 43 (by omega)]
    exact hJ.2.1
  · unfold rkCu
    rw [hS 34 (by omega), hS 35 (by omega), hS 37 (by omega), hS 39 (by omega), hS 41 (by omega)]
    exact hJ.2.2.1
theorem rkZ_red {a b c : Int} (hZ : rkZ G B R) (h0 : 0 ≤ a ∧ a < R 7 0) (hb : -1 ≤ b ∧ b < R 7 0) (hc : 0 ≤ c ∧ c ≤ 4) (hT : ∀ f : Nat, f < 61 → T f = R f) (hr : ∀ k j, InR (T k j)) : rkZ (sI (sP G 306 (rkAt G (B 2) a) (rkOp G (B 2) b)) 307 (rkAt G (B 2) a) c) B (u2 (u2 T 12 a.toNat b) 13 a.toNat c) := by
  have hW := hZ.1
  obtain ⟨hB, hH, hA, hP, iH, iA, iAd, iHl, iP, iS, -, iU⟩ := id hW
  have h7 := iA.2
  obtain ⟨o, tx, ⟨c1, c2, c3, c4, c5, c6⟩, ln⟩ := hA.2 a h0.1 h0.2
  have eo : ∀ f : Nat, f < 61 → f ≠ 12 → f ≠ 13 → u2 (u2 T 12 a.toNat b) 13 a.toNat c f = R f := fun f f1 f2 f3 => by
    funext j
    rw [u2_k f3, u2_k f2, hT f f1]
  have e12 : u2 (u2 T 12 a.toNat b) 13 a.toNat c 12 a.toNat = b := by rw [u2_k (by decide), u2_s]
  have e13 : u2 (u2 T 12 a.toNat b) 13 a.toNat c 13 a.toNat = c := u2_s
  have ej : ∀ f j : Nat, f < 61 → j ≠ a.toNat → u2 (u2 T 12 a.toNat b) 13 a.toNat c f j = R f j := fun f j f1 jn => by
    rw [u2_a jn, u2_a jn, hT f f1]
  have hW' : rkW (sI (sP G 306 (rkAt G (B 2) a) (rkOp G (B 2) b)) 307 (rkAt G (B 2) a) c) B (u2 (u2 T 12 a.toNat b) 13 a.toNat c) := by
    refine rkW_addr hW h0 (fun _ _ => rfl) (fun _ _ => rfl) (fun k x _ hn => ⟨?_, ?_⟩) (fun k hk => ⟨?_, ?_⟩) (fun f f1 f2 f3 => eo f (by omega) (by omega) (by omega)) (fun f j f1 jn => ej f j (by omega) jn) ⟨⟨?_, ?_, ?_, ?_, ?_, ?_⟩, ?_⟩ ?_ ?_ (InR_u (InR_u hr ⟨by omega, by omega⟩) ⟨by omega, by omega⟩)
    · rw [rk_II, u2_a hn]; rfl
    · rw [rk_PI, rk_PP, u2_a hn]
    · rw [rk_II, u2_k (by omega)]; rfl
    · rw [rk_PI, rk_PP, u2_k (by omega)]
    · rw [rk_PI, rk_PP, u2_s, e12]
    · rw [rk_II, u2_s, e13]
    · have e : rkAll (u2 (u2 T 12 a.toNat b) 13 a.toNat c) a = rkAll R a := by
        unfold rkAll
        rw [eo 14 (by decide) (by decide) (by decide), rkOrg_eq (fun f f1 f2 => eo f (by omega) (by omega) (by omega))]
      rw [e, rk_II, u2_k (by decide)]
      exact c3
    · rw [eo 15 (by decide) (by decide) (by decide), rk_II, u2_k (by decide)]; exact c4
    · rw [eo 16 (by decide) (by decide) (by decide), rk_II, u2_k (by decide)]; exact c5
    · rw [eo 17 (by decide) (by decide) (by decide), rk_II, u2_k (by decide)]; exact c6
    · rw [eo 19 (by decide) (by decide) (by decide), rk_PI, rk_PP, u2_k (by decide)]
      unfold rkLn
      rw [eo 18 (by decide) (by decide) (by decide), eo 19 (by decide) (by decide) (by decide), eo 20 (by decide) (by decide) (by decide), eo 21 (by decide) (by decide) (by decide), eo 22 (by decide) (by decide) (by decide), eo 23 (by decide) (by decide) (by decide)]
      rcases ln with q | ⟨q, cc, q1, q2⟩
      · exact Or.inl q
      · refine Or.inr ⟨q, cc, q1, q2.1, ?_, ?_, ?_, ?_, ?_, ?_⟩
        · rw [rk_II, u2_k (by decide)]; exact q2.2.1
        · rw [rk_II, u2_k (by decide)]; exact q2.2.2.1
        · rw [rk_PI, rk_PP, u2_k (by decide)]; exact q2.2.2.2.1
        · rw [rk_II, u2_k (by decide)]; exact q2.2.2.2.2.1
        · rw [rk_II, u2_k (by decide)]; exact q2.2.2.2.2.2.1
        · rw [rk_II, u2_k (by decide)]; exact q2.2.2.2.2.2.2
    · intro i hi
      rw [eo 7 (by decide) (by decide) (by decide)] at hi
      obtain ⟨d1, d2, d3, d4, d5, d6, d7, d8⟩ := iAd i hi
      rw [eo 7 (by decide) (by decide) (by decide), eo 3 (by decide) (by decide) (by decide), eo 8 (by decide) (by decide) (by decide), eo 9 (by decide) (by decide) (by decide), eo 10 (by decide) (by decide) (by decide), eo 11 (by decide) (by decide) (by decide), eo 14 (by decide) (by decide) (by decide), eo 20 (by decide) (by decide) (by decide)]
      by_cases ci : i = a.toNat
      · rw [ci, e12, e13]
        rw [ci] at d1 d2 d3 d4 d7 d8
        exact ⟨d1, d2, d3, d4, hb, hc, d7, d8⟩
      · rw [ej 12 i (by decide) ci, ej 13 i (by decide) ci]
        exact ⟨d1, d2, d3, d4, d5, d6, d7, d8⟩
    · unfold RS
      rw [eo 7 (by decide) (by decide) (by decide), eo 18 (by decide) (by decide) (by decide), eo 19 (by decide) (by decide) (by decide), eo 21 (by decide) (by decide) (by decide), eo 23 (by decide) (by decide) (by decide)]
      exact iS
  exact rkZ_face hZ hW' (ks := [306, 307]) (ls := []) (fr_sI (by decide) (by decide) (fr_sP (by decide) (by decide) fr_rfl)) (by decide) ⟨List.not_mem_nil, List.not_mem_nil, List.not_mem_nil, List.not_mem_nil, List.not_mem_nil⟩ (fun f hf => eo f (by omega) (by omega) (by omega))
end FACES1
