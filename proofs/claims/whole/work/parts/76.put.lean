/-! the jar: one more, or one in another's place -/
section PUT
variable {G G' : GT} {B : Nat → Nat} {R S : RT}
theorem rkC_put {x : Nat} {i : Int} (hB : rkB G B) (hC : rkC G B R) (hF : rkFr [505, 901] [B 8] G G') (hx : gK G x = 0) (hi : 0 ≤ i ∧ i < S 34 0) (hlen : ((gL G' (B 8)).length : Int) = S 34 0) (hat : ∀ j, 0 ≤ j → j < S 34 0 → rkAt G' (B 8) j = if j = i then x else rkAt G (B 8) j) (hle : ∀ j : Int, 0 ≤ j → j < S 34 0 → j ≠ i → j < R 34 0) (h9 : gI G' 901 (B 6) = gI G 901 (B 6) + 1) (h5x : gI G' 505 x = gI G 901 (B 6) + 1) (h5 : ∀ y, gK G y ≠ 0 → gI G' 505 y = gI G 505 y) (hSo : ∀ f, 35 ≤ f → f ≤ 43 → ∀ j : Nat, j ≠ i.toNat → S f j = R f j) (hS43 : S 43 i.toNat = R 1 0) (hS1 : S 1 0 = R 1 0 + 1) (hck : rkCk G' B S i x) : rkC G' B S := by
  have hne : B 1 ≠ B 8 := hB.2.2.2.2.2.2.2.1
  have e1 := hF.2.2.1 (B 1) (by rw [hB.2.1.1]; decide) (by simpa using hne)
  obtain ⟨c1, c2, c3, c4, c5, c6⟩ := id hC
  have key : ∀ j, 0 ≤ j → j < S 34 0 → j ≠ i → gK G (rkAt G (B 8) j) = 5 ∧ rkAt G (B 8) j ≠ x := fun j j0 j1 jn => by
    have k5 := rkC_k hC j0 (hle j j0 j1 jn)
    exact ⟨k5, fun z => by rw [z, hx] at k5; cases k5⟩
  have e5 : ∀ j, 0 ≤ j → j < S 34 0 → gI G' 505 (rkAt G' (B 8) j) = if j = i then gI G 901 (B 6) + 1 else gI G 505 (rkAt G (B 8) j) := fun j j0 j1 => by
    rw [hat j j0 j1]
    by_cases c : j = i
    · rw [if_pos c, if_pos c, h5x]
    · rw [if_neg c, if_neg c]
      exact h5 _ (by rw [(key j j0 j1 c).1]; decide)
  have e43 : ∀ j : Int, 0 ≤ j → j < S 34 0 → S 43 j.toNat = if j = i then R 1 0 else R 43 j.toNat := fun j j0 j1 => by
    by_cases c : j = i
    · rw [if_pos c, c, hS43]
    · rw [if_neg c]
      exact hSo 43 (by decide) (by decide) _ (by omega)
  refine ⟨hlen, fun j j0 j1 => ?_, fun p q hp hq e => ?_, fun p q hp hq => ?_, by rw [h9, hS1]; omega, fun j j0 j1 => ?_⟩
  · by_cases c : j = i
    · rw [hat j j0 j1, if_pos c, c]
      exact hck
    · rw [hat j j0 j1, if_neg c]
      obtain ⟨t, go, d1, d2⟩ := rkCk_fr (c2 j j0 (hle j j0 j1 c)) hF (fun k hk => by simp at hk; rcases hk with rfl | rfl; exact Or.inr (Or.inl rfl); exact Or.inr (Or.inr rfl)) e1
      have E : ∀ f, 35 ≤ f → f ≤ 43 → S f j.toNat = R f j.toNat := fun f h1 h2 => hSo f h1 h2 _ (by omega)
      refine ⟨t, go, ?_, ?_⟩
      · rw [E 35 (by decide) (by decide), E 36 (by decide) (by decide), E 37 (by decide) (by decide), E 38 (by decide) (by decide), E 39 (by decide) (by decide), E 40 (by decide) (by decide), E 41 (by decide) (by decide)]
        exact d1
      · rw [E 38 (by decide) (by decide), E 41 (by decide) (by decide), E 42 (by decide) (by decide)]
        exact d2
  · rw [hat p hp.1 hp.2, hat q hq.1 hq.2] at e
    by_cases cp : p = i
    · by_cases cq : q = i
      · omega
      · rw [if_pos cp, if_neg cq] at e
        exact absurd e.symm (key q hq.1 hq.2 cq).2
    · by_cases cq : q = i
      · rw [if_neg cp, if_pos cq] at e
        exact absurd e (key p hp.1 hp.2 cp).2
      · rw [if_neg cp, if_neg cq] at e
        exact c3 p q ⟨hp.1, hle p hp.1 hp.2 cp⟩ ⟨hq.1, hle q hq.1 hq.2 cq⟩ e
  · rw [e5 p hp.1 hp.2, e5 q hq.1 hq.2, e43 p hp.1 hp.2, e43 q hq.1 hq.2]
    by_cases cp : p = i
    · by_cases cq : q = i
      · rw [if_pos cp, if_pos cq, if_pos cp, if_pos cq]
        omega
      · have q2 := c6 q hq.1 (hle q hq.1 hq.2 cq)
        rw [if_pos cp, if_neg cq, if_pos cp, if_neg cq]
        omega
    · have q1 := c6 p hp.1 (hle p hp.1 hp.2 cp)
      by_cases cq : q = i
      · rw [if_neg cp, if_pos cq, if_neg cp, if_pos cq]
        omega
      · rw [if_neg cp, if_neg cq, if_neg cp, if_neg cq]
        exact c4 p q ⟨hp.1, hle p hp.1 hp.2 cp⟩ ⟨hq.1, hle q hq.1 hq.2 cq⟩
  · rw [e5 j j0 j1, e43 j j0 j1, h9, hS1]
    by_cases c : j = i
    · rw [if_pos c, if_pos c]
      omega
    · have := c6 j j0 (hle j j0 j1 c)
      rw [if_neg c, if_neg c]
      omega
theorem rkAt_put {b x : Nat} {p n : Int} (hl : ((gL G b).length : Int) = n) (hp : -1 ≤ p ∧ p < n) (h : gL G' b = if p = -1 then gL G b ++ [x] else (gL G b).set p.toNat x) : ((gL G' b).length : Int) = (if p = -1 then n + 1 else n) ∧ ∀ j, 0 ≤ j → j < (if p = -1 then n + 1 else n) → rkAt G' b j = if j = (if p = -1 then n else p) then x else rkAt G b j := by
  by_cases c : p = -1
  · rw [if_pos c] at h
    rw [if_pos c, if_pos c, h]
    refine ⟨by rw [List.length_append]; show (((gL G b).length + 1 : Nat) : Int) = _; omega, fun j j0 j1 => ?_⟩
    by_cases cj : j = n
    · rw [if_pos cj, cj]
      exact rkAt_new hl h
    · rw [if_neg cj]
      exact rkAt_app hl h j0 (by omega)
  · rw [if_neg c] at h
    rw [if_neg c, if_neg c, h]
    refine ⟨by rw [List.length_set]; exact hl, fun j j0 j1 => ?_⟩
    unfold rkAt
    rw [h, List.getD_eq_getElem?_getD, List.getD_eq_getElem?_getD, List.getElem?_set]
    by_cases cj : j = p
    · rw [if_pos (by omega), if_pos (by omega), if_pos cj]
      rfl
    · rw [if_neg (by omega), if_neg cj]
/-- the rows after a cookie is kept -/
theorem rSt1_o {a w : Int} (f j : Nat) (h : f ≠ 34 ∧ (f < 35 ∨ 43 < f ∨ j ≠ (rStI R a w).toNat) ∧ (f ≠ 1 ∨ j ≠ 0)) : rSt1 R a w f j = R f j := by
  unfold rSt1 rStPut
  have e : rSt0 R a w f j = R f j := by
    unfold rSt0
    split
    · exact u2_k (by omega)
    · rfl
  unfold u2 at *
  repeat rw [if_neg (by omega)]
  exact e
theorem rSt1_at {a w : Int} : rSt1 R a w 35 (rStI R a w).toNat = R 18 a.toNat ∧ rSt1 R a w 36 (rStI R a w).toNat = R 19 a.toNat ∧ rSt1 R a w 37 (rStI R a w).toNat = rStWho R a ∧ rSt1 R a w 38 (rStI R a w).toNat = bI (rStOwn R a) ∧ rSt1 R a w 39 (rStI R a w).toNat = R 21 a.toNat ∧ rSt1 R a w 40 (rStI R a w).toNat = R 22 a.toNat ∧ rSt1 R a w 41 (rStI R a w).toNat = rStWch R a w ∧ rSt1 R a w 42 (rStI R a w).toNat = (if R 23 a.toNat = 0 then -1 else R 0 0 + R 23 a.toNat) ∧ rSt1 R a w 43 (rStI R a w).toNat = R 1 0 := by
  have e : ∀ f j, f ≠ 34 → rSt0 R a w f j = R f j := fun f j h => by
    unfold rSt0
    split
    · exact u2_k h
    · rfl
  unfold rSt1 rStPut
  rw [e 18 _ (by decide), e 19 _ (by decide), e 21 _ (by decide), e 22 _ (by decide), e 23 _ (by decide), e 0 _ (by decide), e 1 _ (by decide)]
  unfold u2
  refine ⟨?_, ?_, ?_, ?_, ?_, ?_, ?_, ?_, ?_⟩ <;> ((repeat rw [if_neg (by omega)]); exact if_pos ⟨rfl, rfl⟩)
theorem rkCu_st {a w : Int} (hC : RC R) (hU : rkCu R) : rkCu (rSt1 R a w) := by
  have hi := rStI_in (a := a) (w := w) hC
  have e34 := rSt1_34 (R := R) (a := a) (w := w)
  obtain ⟨s1, s2, s3, s4, s5, s6, s7, s8, s9⟩ := rSt1_at (R := R) (a := a) (w := w)
  have O : ∀ f j : Nat, 35 ≤ f → f ≤ 43 → j ≠ (rStI R a w).toNat → rSt1 R a w f j = R f j := fun f j h1 h2 h3 => rSt1_o f j ⟨by omega, Or.inr (Or.inr h3), Or.inl (by omega)⟩
  have hno : ∀ j : Nat, (j : Int) < rSt1 R a w 34 0 → j ≠ (rStI R a w).toNat → ¬ (R 35 j = R 18 a.toNat ∧ R 37 j = rStWho R a ∧ R 39 j = R 21 a.toNat ∧ R 41 j = rStWch R a w) := by
    intro j hj hn z
    have hc := hC.1
    have hj2 : (j : Int) < R 34 0 := by
      rw [e34] at hj
      unfold rStI at hn
      split at hj
      · rename_i c
        rw [if_pos c] at hn
        omega
      · exact hj
    have h1 := rkSf_one (R := R) (n := R 18 a.toNat) (ho := rStWho R a) (w := R 21 a.toNat) (q := rStWch R a w) (i := j) z (R 34 0).toNat (by omega) (fun i h1 h2 h3 h4 h5 => hU i j (by omega) hj2 (h2.trans z.1.symm) (h3.trans z.2.1.symm) (h4.trans z.2.2.1.symm) (h5.trans z.2.2.2.symm))
    rw [← rStF_rk] at h1
    have h2 : rStFd R a w = j := h1
    unfold rStI at hn
    rw [if_neg (by omega)] at hn
    omega
  intro i j h1 h2 q1 q2 q3 q4
  by_cases ci : i = (rStI R a w).toNat
  · by_cases cj : j = (rStI R a w).toNat
    · omega
    · rw [ci, s1, O 35 j (by decide) (by decide) cj] at q1
      rw [ci, s3, O 37 j (by decide) (by decide) cj] at q2
      rw [ci, s5, O 39 j (by decide) (by decide) cj] at q3
      rw [ci, s7, O 41 j (by decide) (by decide) cj] at q4
      exact absurd ⟨q1.symm, q2.symm, q3.symm, q4.symm⟩ (hno j h2 cj)
  · by_cases cj : j = (rStI R a w).toNat
    · rw [cj, s1, O 35 i (by decide) (by decide) ci] at q1
      rw [cj, s3, O 37 i (by decide) (by decide) ci] at q2
      rw [cj, s5, O 39 i (by decide) (by decide) ci] at q3
      rw [cj, s7, O 41 i (by decide) (by decide) ci] at q4
      exact absurd ⟨q1, q2, q3, q4⟩ (hno i h1 ci)
    · rw [O 35 i (by decide) (by decide) ci, O 35 j (by decide) (by decide) cj] at q1
      rw [O 37 i (by decide) (by decide) ci, O 37 j (by decide) (by decide) cj] at q2
      rw [O 39 i (by decide) (by decide) ci, O 39 j (by decide) (by decide) cj] at q3
      rw [O 41 i (by decide) (by decide) ci, O 41 j (by decide) (by decide) cj] at q4
      have hI2 : ∀ k : Nat, (k : Int) < rSt1 R a w 34 0 → k ≠ (rStI R a w).toNat → (k : Int) < R 34 0 := fun k hk hn => by
        have hc := hC.1
        rw [e34] at hk
        unfold rStI at hn
        split at hk
        · rename_i c
          rw [if_pos c] at hn
          omega
        · exact hk
      exact hU i j (hI2 i h1 ci) (hI2 j h2 cj) q1 q2 q3 q4
theorem rSt1_lt {a w : Int} (hC : RC R) {k : Int} (h0 : 0 ≤ k) (hk : k < rSt1 R a w 34 0) (hn : k ≠ rStI R a w) : k < R 34 0 := by
  have hi := rStI_in (a := a) (w := w) hC
  have hc := hC.1
  rw [rSt1_34] at hk
  unfold rStI at hn
  split at hk
  · rename_i c
    rw [if_pos c] at hn
    omega
  · exact hk
theorem rkCd_st {a w : Int} (hC : RC R) (hd : rkCd R) (hu : ∀ i, 0 ≤ i → i < R 34 0 → R 43 i.toNat < R 1 0) : rkCd (rSt1 R a w) := by
  have hi := rStI_in (a := a) (w := w) hC
  have s9 := (rSt1_at (R := R) (a := a) (w := w)).2.2.2.2.2.2.2.2
  have O : ∀ j : Nat, j ≠ (rStI R a w).toNat → rSt1 R a w 43 j = R 43 j := fun j h3 => rSt1_o 43 j ⟨by omega, Or.inr (Or.inr h3), Or.inl (by omega)⟩
  intro i j h1 h2 e
  by_cases ci : i = (rStI R a w).toNat
  · by_cases cj : j = (rStI R a w).toNat
    · omega
    · rw [ci, s9, O j cj] at e
      have := hu j (by omega) (rSt1_lt hC (by omega) h2 (by omega))
      rw [Int.toNat_natCast] at this
      omega
  · by_cases cj : j = (rStI R a w).toNat
    · rw [cj, s9, O i ci] at e
      have := hu i (by omega) (rSt1_lt hC (by omega) h1 (by omega))
      rw [Int.toNat_natCast] at this
      omega
    · rw [O i ci, O j cj] at e
      exact hd i j (rSt1_lt hC (by omega) h1 (by omega)) (rSt1_lt hC (by omega) h2 (by omega)) e
theorem InR_st {a w : Int} (hr : ∀ k j, InR (R k j)) (hA : RA R) (hD : RAd R) (hS : RS R) (hC : RC R) (h : 0 ≤ a ∧ a < R 7 0) (hw : -1 ≤ w ∧ w ≤ 31) (h0 : 0 ≤ R 0 0 ∧ R 0 0 ≤ 1000000000) (h1 : R 1 0 ≤ 1000000) : ∀ k j, InR (rSt1 R a w k j) := by
  intro k j
  have hc := hC.1
  have hwho := rStWho_in hA hD h
  have hH16 := (hr 3 0).2
  obtain ⟨x1, x2, x3, x4⟩ := hS a.toNat (by omega)
  have h10 := (hr 1 0).1
  have ho : InR (rStOwn R a |> bI) := bI_r _
  have hwc : InR (rStWch R a w) := by
    unfold rStWch
    split <;> exact ⟨by omega, by omega⟩
  have hgo : InR (if R 23 a.toNat = 0 then -1 else R 0 0 + R 23 a.toNat) := by
    split <;> exact ⟨by omega, by omega⟩
  have e : ∀ f j, InR (rSt0 R a w f j) := fun f j => by
    unfold rSt0
    split
    · unfold u2
      split
      · exact ⟨by omega, by omega⟩
      · exact hr _ _
    · exact hr _ _
  have e2 : ∀ f j, f ≠ 34 → rSt0 R a w f j = R f j := fun f j h => rSt0_out h
  unfold rSt1 rStPut
  rw [e2 18 _ (by decide), e2 19 _ (by decide), e2 21 _ (by decide), e2 22 _ (by decide), e2 23 _ (by decide), e2 0 _ (by decide), e2 1 _ (by decide)]
  have U : ∀ (T : RT) (f i : Nat) (v : Int), (∀ k j, InR (T k j)) → InR v → ∀ k j, InR (u2 T f i v k j) := fun T f i v hT hv k j => by
    unfold u2
    split
    · exact hv
    · exact hT k j
  exact U _ _ _ _ (U _ _ _ _ (U _ _ _ _ (U _ _ _ _ (U _ _ _ _ (U _ _ _ _ (U _ _ _ _ (U _ _ _ _ (U _ _ _ _ (U _ _ _ _ e (hr _ _)) (hr _ _)) ⟨by omega, by omega⟩) ho) (hr _ _)) (hr _ _)) hwc) hgo) (hr _ _)) ⟨by omega, by omega⟩ k j
theorem rkJ_st {a w : Int} (h : rkJ R) (hu : ∀ i, 0 ≤ i → i < R 34 0 → R 43 i.toNat < R 1 0) (hA : RA R) (hD : RAd R) (hS : RS R) (ha : 0 ≤ a ∧ a < R 7 0) (h2 : ¬ R 19 a.toNat = -1) (h10 : R 34 0 ≤ 10) (hw : -1 ≤ w ∧ w ≤ 31) (h0 : 0 ≤ R 0 0 ∧ R 0 0 ≤ 1000000000) (h1 : R 1 0 ≤ 1000000) : rkJ (rSt1 R a w) :=
  ⟨rSt1_C hA hD hS h.1 ha h2 h10, rkCd_st h.1 h.2.1 hu, rkCu_st h.1 h.2.2.1, InR_st h.2.2.2 hA hD hS h.1 ha hw h0 h1⟩
end PUT
