/-! the reference: evictions, connections, what is recorded -/
theorem rEv2_stop {R : RT} {al si w k b : Int} (h : ¬ (k < R 34 0 ∧ (b = -1 ∨ rHas (R 40 b.toNat) 1 = true))) : rEv2 R al si w 12 k b = b := by
  rw [rEv2, if_neg h]
theorem rEv2_step {R : RT} {al si w k b : Int} (hC : RC R) (h0 : 0 ≤ k) (h : k < R 34 0 ∧ (b = -1 ∨ rHas (R 40 b.toNat) 1 = true)) : rEv2 R al si w 12 k b = rEv2 R al si w 12 (k + 1) (if rAmong R k al si w = true ∧ (b = -1 ∨ R 43 k.toNat < R 43 b.toNat) then k else b) := by
  have hh := hC.1
  rw [rEv2_fuel 12 13 k b (by omega) (by omega), rEv2, if_pos h]
theorem rCR1_44 {R : RT} (hL : RLn R) (a cr w : Int) : 0 ≤ rCR1 R a cr w 44 0 ∧ rCR1 R a cr w 44 0 ≤ 6 ∧ (rCV R a cr w = -1 → rCR1 R a cr w 44 0 ≤ 5) := by
  have h := hL.1
  have hf := rConF_in R a cr w (R 44 0).toNat
  unfold rCR1 rCV
  have e : rCF R a cr w = rConF R a cr w (R 44 0).toNat := rfl
  rw [← e] at hf
  by_cases c1 : ¬ rCF R a cr w = -1 ∧ 20 < R 0 0 - R 51 (rCF R a cr w).toNat
  · rw [if_pos c1, if_pos c1, rCloses_44]
    omega
  · rw [if_neg c1, if_neg c1]
    by_cases c2 : rCF R a cr w = -1 ∧ R 44 0 = 6
    · rw [if_pos c2, rCloses_44]
      omega
    · rw [if_neg c2]
      refine ⟨h.1, h.2, fun z => ?_⟩
      have : ¬ R 44 0 = 6 := fun y => c2 ⟨z, y⟩
      omega
theorem rCV_in {R : RT} (hL : RLn R) (a cr w : Int) : -1 ≤ rCV R a cr w ∧ rCV R a cr w ≤ 5 := by
  have h := hL.1
  have hf := rConF_in R a cr w (R 44 0).toNat
  have e : rCF R a cr w = rConF R a cr w (R 44 0).toNat := rfl
  rw [← e] at hf
  unfold rCV
  split <;> omega
