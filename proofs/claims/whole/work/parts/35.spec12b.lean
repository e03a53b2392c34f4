/-! what a request before a request leaves -/
theorem rSndK_32 {a w q len : Int} {j : Nat} (hj : j ≠ q.toNat) : ∀ (n : Nat) (R : RT), rSndK a w q len n R 32 j = R 32 j := by
  intro n
  induction n with
  | zero => intro R; rfl
  | succ n ih =>
    intro R
    rw [rSndK]
    split
    · unfold rSnd1
      rw [u2_k (by decide), u2_k (by decide), u2_a hj, u2_k (by decide), ih]
    · exact ih R
theorem rSndL_32 {R : RT} {a w q : Int} {j : Nat} (hj : j ≠ q.toNat) : ∀ n : Nat, rSndL R a w q n 32 j = R 32 j := by
  intro n
  induction n with
  | zero => rfl
  | succ n ih => rw [rSndL, rSndK_32 hj, ih]
theorem rPfR_I {R : RT} {a w : Int} (hL : RLn R) (ht : 0 ≤ R 0 0) : (∀ f, (f < 44 ∨ 60 < f) → f ≠ 1 → rPfR R a w f = R f) ∧ RLn (rPfR R a w) ∧ (R 1 0 ≤ rPfR R a w 1 0 ∧ rPfR R a w 1 0 ≤ R 1 0 + 1) ∧ (R 45 0 ≤ rPfR R a w 45 0 ∧ rPfR R a w 45 0 ≤ R 45 0 + 1) ∧ (R 53 0 ≤ rPfR R a w 53 0 ∧ rPfR R a w 53 0 ≤ R 53 0 + 1) ∧ (R 54 0 ≤ rPfR R a w 54 0 ∧ rPfR R a w 54 0 ≤ R 54 0 + 1) := by
  have k1 : ∀ f, (f < 44 ∨ 60 < f) → f ≠ 1 → rPf1 R a w f = R f := by
    intro f h h1
    unfold rPf1
    rw [rCon_out (by omega) h1]
    funext j
    exact u2_k (by omega)
  have kL : RLn (rPf1 R a w) := rCon_Ln hL ht
  have e1 : rPf1 R a w 1 0 = R 1 0 + 1 := by unfold rPf1; rw [rCon_1]; rfl
  have e45 : R 45 0 ≤ rPf1 R a w 45 0 ∧ rPf1 R a w 45 0 ≤ R 45 0 + 1 := by
    have := rCon_45 (R := u2 R 53 0 (R 53 0 + 1)) (a := a) (cr := 0) (w := w)
    rw [u2_k (by decide)] at this
    exact this
  have e53 := rPf1_53 (R := R) (a := a) (w := w)
  have e54 := rPf1_54 (R := R) (a := a) (w := w)
  unfold rPfR
  split
  · exact ⟨fun _ _ _ => rfl, hL, by omega, by omega, by omega, by omega⟩
  · split
    · have g : ∀ f j, f < 54 ∨ 60 < f → rPfPut R a w f j = rPf1 R a w f j := by
        intro f j h
        unfold rPfPut rPf3
        rw [u2_k (by omega), u2_k (by omega), u2_k (by omega), u2_k (by omega), u2_k (by omega), u2_k (by omega)]
        unfold rPf2
        split
        · exact u2_k (by omega)
        · rfl
      have g54 : rPfPut R a w 54 0 = R 54 0 ∨ rPfPut R a w 54 0 = R 54 0 + 1 := by
        unfold rPfPut rPf3
        rw [u2_k (by decide), u2_k (by decide), u2_k (by decide), u2_k (by decide), u2_k (by decide), u2_k (by decide)]
        unfold rPf2
        split
        · right; rw [u2_s, e54]
        · left; exact e54
      refine ⟨fun f h h1 => ?_, ⟨by rw [g 44 0 (by decide)]; exact kL.1, fun j => by rw [g 51 j (by decide)]; exact kL.2 j⟩, by rw [g 1 0 (by decide)]; omega, by rw [g 45 0 (by decide)]; omega, by rw [g 53 0 (by decide)]; omega, by omega⟩
      rw [← k1 f h h1]
      funext j
      exact g f j (by omega)
    · exact ⟨k1, kL, by omega, by omega, by omega, by omega⟩
