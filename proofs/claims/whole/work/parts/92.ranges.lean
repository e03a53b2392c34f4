/-! what the reference's rows hold stays in range through a hop -/
section RNGS
variable {R S T : RT}
theorem InR_u (hr : ∀ k j, InR (R k j)) {f i : Nat} {v : Int} (hv : InR v) : ∀ k j, InR (u2 R f i v k j) := fun k j => by
  unfold u2
  split
  · exact hv
  · exact hr k j
theorem InR_shift (hr : ∀ k j, InR (R k j)) {lo hi : Nat} {i n : Int} : ∀ k j, InR (rShift lo hi R i n k j) := fun k j => by
  unfold rShift
  split <;> exact hr _ _
theorem InR_closes (hr : ∀ k j, InR (R k j)) (h : 0 ≤ R 44 0 ∧ R 44 0 ≤ 6) {i : Int} : ∀ k j, InR (rCloses R i k j) := InR_shift (InR_u hr ⟨by omega, by omega⟩)
theorem InR_con (hr : ∀ k j, InR (R k j)) (h44 : 0 ≤ R 44 0 ∧ R 44 0 ≤ 6) (h45 : 0 ≤ R 45 0 ∧ R 45 0 ≤ 1000000) (h1 : 0 ≤ R 1 0 ∧ R 1 0 ≤ 1000000) {a cr w : Int} (hg : InR (rGate R a)) (hc : InR cr) (hw : InR w) : ∀ k j, InR (rConR R a cr w k j) := by
  have c1 : ∀ k j, InR (rCR1 R a cr w k j) := by
    unfold rCR1
    split
    · exact InR_closes hr h44
    · split
      · exact InR_closes hr h44
      · exact hr
  have e0 : ∀ f, f < 44 ∨ f = 45 → ∀ j, rCR1 R a cr w f j = R f j := fun f hf j => rCR1_out (by omega) j
  have e44 : 0 ≤ rCR1 R a cr w 44 0 + 1 ∧ rCR1 R a cr w 44 0 ≤ 6 := by
    unfold rCR1
    split
    · rw [rCloses_44]; omega
    · split
      · rw [rCloses_44]; omega
      · omega
  have touch : ∀ (X : RT) (i : Int), (∀ k j, InR (X k j)) → (0 ≤ X 1 0 ∧ X 1 0 ≤ 1000000) → ∀ k j, InR (rTouch X i k j) := fun X i hX h k j => by
    unfold rTouch
    exact InR_u (InR_u (InR_u hX (hX _ _)) (hX _ _)) ⟨by omega, by omega⟩ k j
  unfold rConR
  split
  · refine touch _ _ ?_ ?_
    · have g : InR (rGate (rCR1 R a cr w) a) := by
        unfold rGate
        rw [e0 8 (by omega), e0 10 (by omega)]
        exact hg
      unfold rAddLine
      exact InR_u (InR_u (InR_u (InR_u (InR_u (InR_u (InR_u c1 (c1 _ _)) (c1 _ _)) g) hc) hw) ⟨by omega, by omega⟩) ⟨by rw [e0 45 (by omega)]; omega, by rw [e0 45 (by omega)]; omega⟩
    · rw [rAddLine_out (f := 1) (by omega), e0 1 (by omega)]
      exact h1
  · refine touch _ _ c1 ?_
    rw [e0 1 (by omega)]
    exact h1
theorem InR_pf (hr : ∀ k j, InR (R k j)) (h44 : 0 ≤ R 44 0 ∧ R 44 0 ≤ 6) (h45 : 0 ≤ R 45 0 ∧ R 45 0 ≤ 1000000) (h1 : 0 ≤ R 1 0 ∧ R 1 0 ≤ 1000000) (h53 : 0 ≤ R 53 0 ∧ R 53 0 ≤ 1000000) (h54 : 0 ≤ R 54 0 ∧ R 54 0 ≤ 1000000) {a w : Int} (ho : InR (rPfOrg R)) (ha : InR a) (hg : InR (rGate R a)) (hw : InR w) (h0 : 0 ≤ R 0 0 ∧ R 0 0 ≤ 1000000000) (h17 : 0 ≤ R 17 a.toNat ∧ R 17 a.toNat ≤ 1000) : ∀ k j, InR (rPfR R a w k j) := by
  have p1 : ∀ k j, InR (rPf1 R a w k j) := by
    unfold rPf1
    refine InR_con (InR_u hr ⟨by omega, by omega⟩) ?_ ?_ ?_ ?_ ⟨by omega, by omega⟩ hw
    · rw [u2_k (by decide)]; exact h44
    · rw [u2_k (by decide)]; exact h45
    · rw [u2_k (by decide)]; exact h1
    · rw [rGate_u (by decide) (by decide)]; exact hg
  have e : ∀ f : Nat, ((f < 44 ∨ 53 < f) ∧ f ≠ 1) → ∀ j, rPf1 R a w f j = R f j := fun f hf j => congrFun (rPf1_o f hf) j
  have p2 : ∀ k j, InR (rPf2 R a w k j) := by
    unfold rPf2
    split
    · exact InR_u p1 ⟨by rw [e 54 (by decide)]; omega, by rw [e 54 (by decide)]; omega⟩
    · exact p1
  have e2 : ∀ f : Nat, ((f < 44 ∨ 54 < f) ∧ f ≠ 1) → ∀ j, rPf2 R a w f j = R f j := fun f hf j => by
    unfold rPf2
    split
    · rw [u2_k (by omega)]; exact e f (by omega) j
    · exact e f (by omega) j
  unfold rPfR
  split
  · exact hr
  · split
    · unfold rPfPut rPf3
      exact InR_u (InR_u (InR_u (InR_u (InR_u (InR_u p2 ho) ha) (p2 _ _)) hw) (p2 _ _)) ⟨by rw [e2 0 (by decide), e2 17 (by decide)]; omega, by rw [e2 0 (by decide), e2 17 (by decide)]; omega⟩
    · exact p1
theorem InR_rec (hr : ∀ k j, InR (R k j)) {m q : Int} (hm : 0 ≤ m ∧ m ≤ 24) (h66 : 0 ≤ R 66 0 ∧ R 66 0 ≤ 2) (h30 : 0 ≤ R 30 (R 28 0).toNat ∧ R 30 (R 28 0).toNat ≤ 6) : ∀ k j, InR (rRec R m q k j) := by
  have := rRef_in R m
  unfold rRec
  refine InR_u (InR_u (InR_u hr ?_) ⟨by omega, by omega⟩) ⟨by omega, by omega⟩
  unfold rHopV
  split <;> exact ⟨by omega, by omega⟩
theorem InR_d2 (hr : ∀ k j, InR (R k j)) {m : Int} : ∀ k j, InR (rD2 R m k j) := by
  unfold rD2
  refine InR_u (InR_u hr ?_) ?_
  · unfold rAfar; split <;> exact ⟨by omega, by omega⟩
  · unfold rWas; split <;> exact ⟨by omega, by omega⟩
/-- the rows before a hop is judged are the same but for what is recorded -/
theorem rkD2_o {m q : Int} (f : Nat) (h : f ≠ 30 ∧ f ≠ 31 ∧ f ≠ 32 ∧ f ≠ 68 ∧ f ≠ 69) : rD2 (rRec R m q) m f = R f := by
  funext j
  unfold rD2
  rw [u2_k (by omega), u2_k (by omega), rRec_out ⟨h.1, h.2.1, h.2.2.1⟩]
theorem rkUm_mix {a : Int} (hD : RAd R) (hP : RP R) (h61 : 0 ≤ R 61 0 ∧ R 61 0 < R 24 0) (h62 : 0 ≤ R 62 0 ∧ R 62 0 ≤ 2) (h0 : 0 ≤ a ∧ a < R 7 0) (hf : ¬ rFnd R 1 (R 9 a.toNat) (R 10 a.toNat) (R 11 a.toNat) = -1 → R 8 (rFnd R 1 (R 9 a.toNat) (R 10 a.toNat) (R 11 a.toNat)).toNat = 1) : (rkMx R (R 62 0) (rkUm R (R 62 0) a (R 61 0)) (R 61 0) = true → rMix R a = -1 ∧ rkUm R (R 62 0) a (R 61 0) = a) ∧ (rkMx R (R 62 0) (rkUm R (R 62 0) a (R 61 0)) (R 61 0) = false → rMix R a = rkUm R (R 62 0) a (R 61 0)) := by
  have d := (hD a.toNat (by omega)).1
  have u := (hP.2 (R 61 0).toNat (by omega)).1
  have d2 := (hD (R 25 (R 61 0).toNat).toNat (by omega)).1
  have mx : ∀ b : Int, rkMx R (R 62 0) b (R 61 0) = true ↔ (R 8 (R 25 (R 61 0).toNat).toNat = 1 ∧ R 8 b.toNat = 0 ∧ ¬ R 62 0 = 2) := fun b => by simp [rkMx]
  have eF : rFrom R = R 25 (R 61 0).toNat := rfl
  by_cases c : rkMx R (R 62 0) a (R 61 0) = true
  · have c' := (mx a).mp c
    by_cases e : R 62 0 = 0
    · by_cases g : rFnd R 1 (R 9 a.toNat) (R 10 a.toNat) (R 11 a.toNat) = -1
      · have hu : rkUm R (R 62 0) a (R 61 0) = a := if_neg (fun z => z.2.2 g)
        have hm : rMix R a = -1 := by
          unfold rMix
          rw [eF, if_neg (by omega), if_pos e, g]
        rw [hu]
        exact ⟨fun _ => ⟨hm, rfl⟩, fun z => by rw [c] at z; cases z⟩
      · have hu : rkUm R (R 62 0) a (R 61 0) = rFnd R 1 (R 9 a.toNat) (R 10 a.toNat) (R 11 a.toNat) := if_pos ⟨e, c, g⟩
        have h1 := hf g
        have hm : rMix R a = rFnd R 1 (R 9 a.toNat) (R 10 a.toNat) (R 11 a.toNat) := by
          unfold rMix
          rw [eF, if_neg (by omega), if_pos e]
        rw [hu]
        exact ⟨fun z => by have := (mx _).mp z; omega, fun _ => hm⟩
    · have hu : rkUm R (R 62 0) a (R 61 0) = a := if_neg (fun z => e z.1)
      have hm : rMix R a = -1 := by
        unfold rMix
        rw [eF, if_neg (by omega), if_neg e]
      rw [hu]
      exact ⟨fun _ => ⟨hm, rfl⟩, fun z => by rw [c] at z; cases z⟩
  · have hu : rkUm R (R 62 0) a (R 61 0) = a := if_neg (fun z => c z.2.1)
    have c' : ¬ (R 8 (R 25 (R 61 0).toNat).toNat = 1 ∧ R 8 a.toNat = 0 ∧ ¬ R 62 0 = 2) := fun z => c ((mx a).mpr z)
    have hm : rMix R a = a := by
      unfold rMix
      rw [eF, if_pos (by omega)]
    rw [hu]
    exact ⟨fun z => absurd z c, fun _ => hm⟩
end RNGS
