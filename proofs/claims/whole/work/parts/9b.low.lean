/-! one host more: what is told of the hosts below stays -/
section LOWH
variable {R S : RT}
theorem rDepth_low (hH : RH R) (h4 : ∀ j : Nat, (j : Int) < R 3 0 → S 4 j = R 4 j) : ∀ (n : Nat) (b : Int), -1 ≤ b → b < R 3 0 → rDepth S n b = rDepth R n b := by
  intro n
  induction n with
  | zero => intro b _ _; rfl
  | succ n ih =>
    intro b b0 b1
    unfold rDepth
    by_cases c : b = -1
    · rw [if_pos c, if_pos c]
    · have u := hH.2 b.toNat (by omega)
      rw [if_neg c, if_neg c, h4 b.toNat (by omega), ih _ u.1 (by omega)]
theorem rSignF_low (hH : RH R) (h4 : ∀ j : Nat, (j : Int) < R 3 0 → S 4 j = R 4 j) (h5 : ∀ j : Nat, (j : Int) < R 3 0 → S 5 j = R 5 j) (h10 : S 10 = R 10) (h11 : S 11 = R 11) (a : Int) : ∀ (n : Nat) (q k : Int), -1 ≤ q → q < R 3 0 → rSignF S a n q k = rSignF R a n q k := by
  intro n
  induction n with
  | zero => intro q k _ _; rfl
  | succ n ih =>
    intro q k q0 q1
    have eb : rBeh S a k = rBeh R a k := by
      unfold rBeh rBeh2
      rw [h10, h11]
    by_cases c : q = -1
    · unfold rSignF
      rw [if_neg (show ¬ (¬ q = -1 ∧ rLetters (S 5 q.toNat) ≤ k) from fun z => z.1 c), if_neg (show ¬ (¬ q = -1 ∧ rLetters (R 5 q.toNat) ≤ k) from fun z => z.1 c), if_pos c, if_pos c, eb]
    · have u := hH.2 q.toNat (by omega)
      unfold rSignF
      rw [h4 q.toNat (by omega), h5 q.toNat (by omega), ih _ _ u.1 (by omega), ih _ _ u.1 (by omega), if_neg c, if_neg c]
end LOWH
