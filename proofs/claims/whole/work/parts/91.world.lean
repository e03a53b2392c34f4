/-! all that holds of the program's world and the reference's rows -/
def rkZ (G : GT) (B : Nat → Nat) (R : RT) : Prop := rkW G B R ∧ rkC G B R ∧ rkJ R ∧ rkQ G B R ∧ rkF G B R ∧ gI G 1407 (B 0) = R 2 0 ∧ gI G 1408 (B 0) = R 0 0 ∧ gI G 1409 (B 0) = R 53 0
def rkKs (k : Nat) : Bool := (k / 100 == 7) || (k / 100 == 13)
section WORLD
variable {ks ls : List Nat} {G G' : GT} {B : Nat → Nat} {R S : RT}
theorem rkKs_all {k : Nat} (h : rkKs k = true) : rkOf k = false ∧ rkOc k = false ∧ (k < 400 ∨ 404 ≤ k) ∧ k ≠ 1101 ∧ (k < 1200 ∨ 1206 ≤ k) ∧ (k < 1400 ∨ 1410 ≤ k) := by
  unfold rkKs at h
  rw [Bool.or_eq_true, beq_iff_eq, beq_iff_eq] at h
  refine ⟨?_, ?_, by omega, by omega, by omega, by omega⟩
  · unfold rkOf
    rcases h with h | h <;> (rw [h]; simp; try omega)
  · unfold rkOc
    rcases h with h | h <;> (rw [h]; simp; omega)
/-- the reference's other rows change -/
theorem rkZ_R (hZ : rkZ G B R) (h : ∀ f : Nat, f < 28 ∨ (34 ≤ f ∧ f ≤ 60) → S f = R f) (hr : ∀ k j, InR (S k j)) : rkZ G B S := by
  obtain ⟨hW, hC, hJ, hQ, hF, s1, s2, s3⟩ := hZ
  refine ⟨rkW_R hW (fun f f1 _ => h f (Or.inl f1)) hr, rkC_R hC (fun f f1 f2 => h f (by omega)) (by rw [h 1 (by omega)]; exact Int.le_refl _), ⟨?_, ?_, ?_, hr⟩, rkQ_fr hW.1 hQ (fr_rfl (ks := []) (ls := [])) (fun k z => by cases z) List.not_mem_nil (fun f hf => h f (by omega)), rkF_fr hW.1 hF (fr_rfl (ks := []) (ls := [])) (fun k z => by cases z) ⟨List.not_mem_nil, List.not_mem_nil⟩ (fun f hf => h f (by omega)) (by rw [h 53 (by omega)]; exact Int.le_refl _), by rw [h 2 (by omega)]; exact s1, by rw [h 0 (by omega)]; exact s2, by rw [h 53 (by omega)]; exact s3⟩
  · unfold RC
    rw [h 34 (by omega), h 37 (by omega), h 3 (by omega), h 39 (by omega), h 35 (by omega), h 36 (by omega)]
    exact hJ.1
  · unfold rkCd
    rw [h 34 (by omega), h 43 (by omega)]
    exact hJ.2.1
  · unfold rkCu
    rw [h 34 (by omega), h 35 (by omega), h 37 (by omega), h 39 (by omega), h 41 (by omega)]
    exact hJ.2.2.1
/-- what a request and its hops write touches nothing of it -/
theorem rkZ_fr (hZ : rkZ G B R) (h : rkFr ks ls G G') (hks : ∀ k ∈ ks, rkKs k = true) (hls : ∀ x ∈ ls, gK G x ≠ 22 ∧ x ≠ B 1 ∧ x ≠ B 2 ∧ x ≠ B 3 ∧ x ≠ B 5 ∧ x ≠ B 8 ∧ x ≠ B 9) : rkZ G' B R := by
  obtain ⟨hW, hC, hJ, hQ, hF, s1, s2, s3⟩ := hZ
  have b0 : gK G (B 0) ≠ 0 := by rw [hW.1.1.1]; decide
  have N : ∀ k, 1400 ≤ k → k < 1410 → k ∉ ks := fun k k1 k2 z => by
    have := (rkKs_all (hks k z)).2.2.2.2.2
    omega
  exact ⟨rkW_fr hW h (fun k hk => (rkKs_all (hks k hk)).1) ⟨fun z => (hls _ z).2.1 rfl, fun z => (hls _ z).2.2.1 rfl, fun z => (hls _ z).2.2.2.1 rfl⟩ (fun x z => (hls x z).1), rkC_fr hW.1 hC h (fun k hk => (rkKs_all (hks k hk)).2.1) (fun z => (hls _ z).2.1 rfl) (fun z => (hls _ z).2.2.2.2.2.1 rfl), hJ, rkQ_fr hW.1 hQ h (fun k hk => ⟨(rkKs_all (hks k hk)).2.2.1, (rkKs_all (hks k hk)).2.2.2.1⟩) (fun z => (hls _ z).2.2.2.2.2.2 rfl) (fun _ _ => rfl), rkF_fr hW.1 hF h (fun k hk => (rkKs_all (hks k hk)).2.2.2.2.1) ⟨fun z => (hls _ z).2.2.1 rfl, fun z => (hls _ z).2.2.2.2.1 rfl⟩ (fun _ _ => rfl) (Int.le_refl _), ((h.2.1 1407 (B 0) b0 (N 1407 (by decide) (by decide))).1).trans s1, ((h.2.1 1408 (B 0) b0 (N 1408 (by decide) (by decide))).1).trans s2, ((h.2.1 1409 (B 0) b0 (N 1409 (by decide) (by decide))).1).trans s3⟩
/-- a hop that was taken before -/
theorem rkSn_fr {hp ar : Nat} {q : Int} (hn : gK G hp ≠ 0) (hs : rkSn G hp ar R q) (h : rkFr ks ls G G') (hks : 707 ∉ ks ∧ 708 ∉ ks) (hS : S 32 q.toNat = R 32 q.toNat ∧ ∀ j : Int, 0 ≤ j → j < R 32 q.toNat → S 33 (12 * q + j).toNat = R 33 (12 * q + j).toNat) : rkSn G' hp ar S q := by
  obtain ⟨s1, s2, s3, s4⟩ := hs
  have ha : gK G ar ≠ 0 := by rw [s2]; decide
  refine ⟨((h.2.1 707 hp hn hks.1).2).trans s1, (h.1 ar ha).trans s2, ((h.2.1 708 hp hn hks.2).1).trans (s3.trans hS.1.symm), fun j j0 j1 => ?_⟩
  rw [hS.1] at j1
  rw [h.2.2.2.2.2 hks.2 ar ha, hS.2 j j0 j1]
  exact s4 j j0 j1
theorem rkHp_fr {x : Nat} {q : Int} (hB : rkB G B) (hh : rkHp G B R q x) (h : rkFr ks ls G G') (hks : ∀ k ∈ ks, k < 700 ∨ 712 ≤ k) (hls : B 2 ∉ ls) (h7 : R 7 0 ≤ S 7 0) (hS : S 31 q.toNat = R 31 q.toNat ∧ S 32 q.toNat = R 32 q.toNat ∧ ∀ j : Int, 0 ≤ j → j < R 32 q.toNat → S 33 (12 * q + j).toNat = R 33 (12 * q + j).toNat) : rkHp G' B S q x := by
  obtain ⟨a, me, ta, af, nv, pt, hv, h0, h31, h32, ar, hs⟩ := hh
  have hn : gK G x ≠ 0 := by rw [hv.1]; decide
  have N : ∀ k, 700 ≤ k → k < 712 → k ∉ ks := fun k k1 k2 z => by
    have := hks k z
    omega
  exact ⟨a, me, ta, af, nv, pt, rkHv_fr hv h (fun k hk => by have := hks k hk; omega) (h.2.2.1 (B 2) (by rw [hB.2.1.2.1]; decide) hls), ⟨h0.1, by omega⟩, by rw [hS.1, (h.2.1 706 x hn (N 706 (by decide) (by decide))).1]; exact h31, by rw [hS.2.1]; exact h32, ar, rkSn_fr hn hs h ⟨N 707 (by decide) (by decide), N 708 (by decide) (by decide)⟩ hS.2⟩
end WORLD
