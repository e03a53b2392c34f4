/-! an address is told more: its own fields and rows change, no other's -/
section ADDR
variable {G G' : GT} {B : Nat → Nat} {R S : RT}
theorem rSignF_eq (h4 : S 4 = R 4) (h5 : S 5 = R 5) (h10 : S 10 = R 10) (h11 : S 11 = R 11) (a : Int) : ∀ (n : Nat) (q k : Int), rSignF S a n q k = rSignF R a n q k := by
  intro n
  induction n with
  | zero => intro q k; rfl
  | succ n ih =>
    intro q k
    unfold rSignF rBeh rBeh2
    rw [h4, h5, h10, h11]
    simp only [ih]
theorem rSign_eq (h : ∀ f : Nat, 2 < f → f < 12 → S f = R f) (a k : Int) : rSign S a k = rSign R a k := by
  unfold rSign
  rw [h 8 (by decide) (by decide), h 9 (by decide) (by decide)]
  simp only [rSignF_eq (h 4 (by decide) (by decide)) (h 5 (by decide) (by decide)) (h 10 (by decide) (by decide)) (h 11 (by decide) (by decide))]
theorem rkOrg_eq (h : ∀ f : Nat, 2 < f → f < 12 → S f = R f) (a : Int) : rkOrg S a = rkOrg R a := by
  unfold rkOrg rGate
  rw [h 8 (by decide) (by decide), h 9 (by decide) (by decide), h 10 (by decide) (by decide)]
theorem rDepth_eq (h4 : S 4 = R 4) : ∀ (n : Nat) (b : Int), rDepth S n b = rDepth R n b := by
  intro n
  induction n with
  | zero => intro b; rfl
  | succ n ih =>
    intro b
    unfold rDepth
    rw [h4, ih]
theorem rkW_addr {a : Int} (hW : rkW G B R) (h0 : 0 ≤ a ∧ a < R 7 0) (hK : ∀ x, gK G x ≠ 0 → gK G' x = gK G x) (hL : ∀ x, gK G x ≠ 0 → gL G' x = gL G x) (hx : ∀ k x, gK G x ≠ 0 → x ≠ rkAt G (B 2) a → gI G' k x = gI G k x ∧ gP G' k x = gP G k x) (hk : ∀ k, k < 306 ∨ 312 < k → gI G' k (rkAt G (B 2) a) = gI G k (rkAt G (B 2) a) ∧ gP G' k (rkAt G (B 2) a) = gP G k (rkAt G (B 2) a))
    (hS : ∀ f : Nat, 2 < f → f < 28 → f < 12 ∨ 23 < f → S f = R f) (hj : ∀ f j : Nat, f < 28 → j ≠ a.toNat → S f j = R f j)
    (hA : (gP G' 306 (rkAt G (B 2) a) = rkOp G (B 2) (S 12 a.toNat) ∧ gI G' 307 (rkAt G (B 2) a) = S 13 a.toNat ∧ gI G' 308 (rkAt G (B 2) a) = rkAll S a ∧ gI G' 309 (rkAt G (B 2) a) = S 15 a.toNat ∧ gI G' 310 (rkAt G (B 2) a) = S 16 a.toNat ∧ gI G' 311 (rkAt G (B 2) a) = S 17 a.toNat) ∧ ((S 19 a.toNat = -1 ∧ gP G' 312 (rkAt G (B 2) a) = none) ∨ (S 19 a.toNat ≠ -1 ∧ ∃ c, gP G' 312 (rkAt G (B 2) a) = some c ∧ rkLn G' B S a c)))
    (hD : RAd S) (hSS : RS S) (hr : ∀ k j, InR (S k j)) : rkW G' B S := by
  obtain ⟨hB, ⟨h1, h2⟩, ⟨a1, a2⟩, ⟨p1, p2⟩, iH, iA, iAd, iHl, iP, iS, -, iU⟩ := hW
  have b0 := hB.1
  have E : ∀ f : Nat, 2 < f → f < 12 → S f = R f := fun f f1 f2 => hS f f1 (by omega) (Or.inl f2)
  obtain ⟨⟨b0, b6, b7⟩, ⟨bk1, bk2, bk3, bk4, bk5, bk8, bk9⟩, ⟨bp0, bp1, bp2, bp3, bp4, bp5, bp6, bp7, bp8⟩, bne⟩ := id hB
  have ka := (a2 a h0.1 h0.2).1.1
  have K0 : ∀ x c, gK G x = c → c ≠ 0 → gK G' x = c := fun x c e z => (hK x (by omega)).trans e
  have P0 : ∀ f x y, gK G x ≠ 0 → gK G x ≠ 3 → gP G f x = y → gP G' f x = y := fun f x y z1 z2 e => (hx f x z1 (fun q => z2 (q ▸ ka))).2.trans e
  have I0 : ∀ f x y, gK G x ≠ 0 → gK G x ≠ 3 → gI G f x = y → gI G' f x = y := fun f x y z1 z2 e => (hx f x z1 (fun q => z2 (q ▸ ka))).1.trans e
  have l1 := hL (B 1) (by omega)
  have l2 := hL (B 2) (by omega)
  have l3 := hL (B 3) (by omega)
  have hBn : rkB G' B := ⟨⟨K0 _ _ b0 (by decide), K0 _ _ b6 (by decide), K0 _ _ b7 (by decide)⟩, ⟨K0 _ _ bk1 (by decide), K0 _ _ bk2 (by decide), K0 _ _ bk3 (by decide), K0 _ _ bk4 (by decide), K0 _ _ bk5 (by decide), K0 _ _ bk8 (by decide), K0 _ _ bk9 (by decide)⟩, ⟨P0 _ _ _ (by omega) (by omega) bp0, P0 _ _ _ (by omega) (by omega) bp1, P0 _ _ _ (by omega) (by omega) bp2, P0 _ _ _ (by omega) (by omega) bp3, P0 _ _ _ (by omega) (by omega) bp4, P0 _ _ _ (by omega) (by omega) bp5, P0 _ _ _ (by omega) (by omega) bp6, P0 _ _ _ (by omega) (by omega) bp7, P0 _ _ _ (by omega) (by omega) bp8⟩, bne⟩
  refine ⟨hBn, ⟨by rw [l1, E 3 (by decide) (by decide)]; exact h1, fun i i0 i1 => ?_⟩, ⟨by rw [l2, E 7 (by decide) (by decide)]; exact a1, fun i i0 i1 => ?_⟩, ⟨by rw [l3, hS 24 (by decide) (by decide) (by decide)]; exact p1, fun i i0 i1 => ?_⟩, ?_, ?_, hD, ?_, ?_, hSS, hr, ?_⟩
  · rw [E 3 (by decide) (by decide)] at i1
    obtain ⟨o1, o2, o3, o4, o5, o6⟩ := h2 i i0 i1
    rw [rkAt_same l1]
    refine ⟨K0 _ _ o1 (by decide), I0 _ _ _ (by omega) (by omega) o2, ?_, ?_, ?_, ?_⟩
    · rw [rkOp_same l1, E 4 (by decide) (by decide)]
      exact P0 _ _ _ (by omega) (by omega) o3
    · rw [E 5 (by decide) (by decide)]
      exact I0 _ _ _ (by omega) (by omega) o4
    · have e : rDep S (S 4 i.toNat) = rDep R (R 4 i.toNat) := by
        unfold rDep
        rw [E 4 (by decide) (by decide), rDepth_eq (E 4 (by decide) (by decide))]
      rw [e]
      exact I0 _ _ _ (by omega) (by omega) o5
    · rw [E 6 (by decide) (by decide)]
      exact I0 _ _ _ (by omega) (by omega) o6
  · rw [E 7 (by decide) (by decide)] at i1
    rw [rkAt_same l2]
    obtain ⟨⟨o1, o2, o3, o4, o5, o6⟩, ⟨w, w1, w2, w3⟩, ⟨c1, c2, c3, c4, c5, c6⟩, ln⟩ := a2 i i0 i1
    have hn : gK G (rkAt G (B 2) i) ≠ 0 := by omega
    have tx : rkTx S i (gL G' w) := by
      rw [hL w (by omega)]
      unfold rkTx
      simp only [rSign_eq E]
      exact w3
    by_cases c : i = a
    · subst c
      refine ⟨⟨K0 _ _ o1 (by decide), (hk 300 (by omega)).1.trans o2, ?_, ?_, ?_, ?_⟩, ⟨w, (hk 305 (by omega)).2.trans w1, K0 _ _ w2 (by decide), tx⟩, ⟨?_, hA.1.2⟩, hA.2⟩
      · rw [E 8 (by decide) (by decide)]; exact (hk 301 (by omega)).1.trans o3
      · rw [rkAt_same l1, E 9 (by decide) (by decide)]; exact (hk 302 (by omega)).2.trans o4
      · rw [E 10 (by decide) (by decide)]; exact (hk 303 (by omega)).1.trans o5
      · rw [E 11 (by decide) (by decide)]; exact (hk 304 (by omega)).1.trans o6
      · rw [rkOp_same l2]; exact hA.1.1
    · have hne : rkAt G (B 2) i ≠ rkAt G (B 2) a := fun z => c (rkAt_inj (f := 300) (fun i i0 i1 => (a2 i i0 i1).1.2.1) ⟨i0, i1⟩ h0 z)
      have H := fun k => hx k _ hn hne
      have jn : i.toNat ≠ a.toNat := by omega
      have J : ∀ f : Nat, f < 28 → S f i.toNat = R f i.toNat := fun f hf => hj f _ hf jn
      refine ⟨⟨K0 _ _ o1 (by decide), (H 300).1.trans o2, (H 301).1.trans (o3.trans (J 8 (by decide)).symm), ?_, (H 303).1.trans (o5.trans (J 10 (by decide)).symm), (H 304).1.trans (o6.trans (J 11 (by decide)).symm)⟩, ⟨w, (H 305).2.trans w1, K0 _ _ w2 (by decide), tx⟩, ⟨?_, (H 307).1.trans (c2.trans (J 13 (by decide)).symm), ?_, (H 309).1.trans (c4.trans (J 15 (by decide)).symm), (H 310).1.trans (c5.trans (J 16 (by decide)).symm), (H 311).1.trans (c6.trans (J 17 (by decide)).symm)⟩, ?_⟩
      · rw [rkAt_same l1, J 9 (by decide)]; exact (H 302).2.trans o4
      · rw [rkOp_same l2, J 12 (by decide)]; exact (H 306).2.trans c1
      · have e : rkAll S i = rkAll R i := by
          unfold rkAll
          rw [J 14 (by decide), rkOrg_eq E]
        rw [e]; exact (H 308).1.trans c3
      · rw [J 19 (by decide)]
        rcases ln with ⟨q1, q2⟩ | ⟨q1, cc, q2, q3⟩
        · exact Or.inl ⟨q1, (H 312).2.trans q2⟩
        · refine Or.inr ⟨q1, cc, (H 312).2.trans q2, ?_⟩
          obtain ⟨z1, z2, z3, z4, z5, z6, z7⟩ := q3
          unfold rkLn
          rw [rkOp_same l1, J 18 (by decide), J 19 (by decide), J 20 (by decide), J 21 (by decide), J 22 (by decide), J 23 (by decide)]
          exact ⟨K0 _ _ z1 (by decide), I0 _ _ _ (by omega) (by omega) z2, I0 _ _ _ (by omega) (by omega) z3, P0 _ _ _ (by omega) (by omega) z4, I0 _ _ _ (by omega) (by omega) z5, I0 _ _ _ (by omega) (by omega) z6, I0 _ _ _ (by omega) (by omega) z7⟩
  · rw [hS 24 (by decide) (by decide) (by decide)] at i1
    obtain ⟨o1, o2, o3, o4⟩ := p2 i i0 i1
    rw [rkAt_same l3]
    unfold rkPa
    rw [rkAt_same l2, rkOp_same l3, hS 25 (by decide) (by decide) (by decide), hS 26 (by decide) (by decide) (by decide), hS 27 (by decide) (by decide) (by decide)]
    exact ⟨K0 _ _ o1 (by decide), P0 _ _ _ (by omega) (by omega) o2, P0 _ _ _ (by omega) (by omega) o3, I0 _ _ _ (by omega) (by omega) o4⟩
  · unfold RH
    rw [E 3 (by decide) (by decide), E 4 (by decide) (by decide)]
    exact iH
  · unfold RA
    rw [E 7 (by decide) (by decide)]
    exact iA
  · unfold RHl
    rw [E 3 (by decide) (by decide), E 5 (by decide) (by decide)]
    exact iHl
  · unfold RP
    rw [hS 24 (by decide) (by decide) (by decide), hS 25 (by decide) (by decide) (by decide), E 7 (by decide) (by decide), hS 26 (by decide) (by decide) (by decide), hS 27 (by decide) (by decide) (by decide)]
    exact iP
  · unfold rkU
    rw [E 3 (by decide) (by decide), E 4 (by decide) (by decide), E 5 (by decide) (by decide), E 7 (by decide) (by decide), E 8 (by decide) (by decide), E 9 (by decide) (by decide), E 10 (by decide) (by decide), E 11 (by decide) (by decide)]
    exact iU
end ADDR
