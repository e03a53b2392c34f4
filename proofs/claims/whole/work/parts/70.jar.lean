/-! the jar: the program's cookies and the reference's -/
def rkPm (q : Int) : Int := if q = -1 then -1 else 2 * (q % 16) + q / 16
theorem rkPm_inj {p q : Int} (hp : -1 ≤ p ∧ p ≤ 31) (hq : -1 ≤ q ∧ q ≤ 31) : (rkPm p = rkPm q ↔ p = q) := by
  unfold rkPm
  split <;> split <;> omega
theorem rkPm_no {p : Int} (hp : -1 ≤ p ∧ p ≤ 31) : (rkPm p = -1 ↔ p = -1) := by
  unfold rkPm
  split <;> omega
def rkCk (G : GT) (B : Nat → Nat) (R : RT) (j : Int) (x : Nat) : Prop := ∃ t go : Int, rkCo G B x (R 35 j.toNat) (R 36 j.toNat) (R 39 j.toNat) (R 40 j.toNat) t (R 37 j.toNat) (R 38 j.toNat) (rkPm (R 41 j.toNat)) go ∧ ((t = 0 ∧ R 42 j.toNat = -1) ∨ (1 ≤ t ∧ t ≤ 1000 ∧ R 42 j.toNat = go ∧ 0 ≤ go)) ∧ (-1 ≤ R 41 j.toNat ∧ R 41 j.toNat ≤ 31) ∧ (R 38 j.toNat = 0 ∨ R 38 j.toNat = 1)
def rkC (G : GT) (B : Nat → Nat) (R : RT) : Prop := ((gL G (B 8)).length : Int) = R 34 0 ∧ (∀ j, 0 ≤ j → j < R 34 0 → rkCk G B R j (rkAt G (B 8) j)) ∧
  (∀ i j, 0 ≤ i ∧ i < R 34 0 → 0 ≤ j ∧ j < R 34 0 → rkAt G (B 8) i = rkAt G (B 8) j → i = j) ∧
  (∀ i j, 0 ≤ i ∧ i < R 34 0 → 0 ≤ j ∧ j < R 34 0 → (gI G 505 (rkAt G (B 8) i) < gI G 505 (rkAt G (B 8) j) ↔ R 43 i.toNat < R 43 j.toNat)) ∧
  (0 ≤ gI G 901 (B 6) ∧ gI G 901 (B 6) ≤ R 1 0) ∧ ∀ i, 0 ≤ i → i < R 34 0 → gI G 505 (rkAt G (B 8) i) ≤ gI G 901 (B 6) ∧ R 43 i.toNat < R 1 0
def rkOc (k : Nat) : Bool := k / 100 == 5 || k / 100 == 6 || k == 901
section JAR
variable {ks ls : List Nat} {G G' : GT} {B : Nat → Nat} {R S : RT}
theorem fc_I {f : Nat → Bool} (h : rkFr ks ls G G') (hks : ∀ k ∈ ks, f k = false) {k x : Nat} (hx : gK G x ≠ 0) (hk : f k = true) : gI G' k x = gI G k x := (h.2.1 k x hx (fun z => by rw [hks k z] at hk; cases hk)).1
theorem fc_P {f : Nat → Bool} (h : rkFr ks ls G G') (hks : ∀ k ∈ ks, f k = false) {k x : Nat} (hx : gK G x ≠ 0) (hk : f k = true) : gP G' k x = gP G k x := (h.2.1 k x hx (fun z => by rw [hks k z] at hk; cases hk)).2
theorem rkCL_fr {c : Nat} {n v w f t : Int} (hL : rkCL G c n v w f t) (h : rkFr ks ls G G') (hks : ∀ k ∈ ks, rkOc k = false ∨ k = 505 ∨ k = 901) : rkCL G' c n v w f t := by
  obtain ⟨l1, l2, l3, l4, l5, l6⟩ := hL
  have hx : gK G c ≠ 0 := by rw [l1]; decide
  have K : ∀ k : Nat, k / 100 = 6 → gI G' k c = gI G k c := fun k hk => (h.2.1 k c hx (fun z => by
    rcases hks k z with q | q | q
    · simp [rkOc, hk] at q
    · omega
    · omega)).1
  exact ⟨(h.1 c hx).trans l1, (K 600 rfl).trans l2, (K 601 rfl).trans l3, (K 603 rfl).trans l4, (K 604 rfl).trans l5, (K 605 rfl).trans l6⟩
theorem rkCo_fr {x : Nat} {n v w f t ho al pt go : Int} (hC : rkCo G B x n v w f t ho al pt go) (h : rkFr ks ls G G') (hks : ∀ k ∈ ks, rkOc k = false ∨ k = 505 ∨ k = 901) (h1 : gL G' (B 1) = gL G (B 1)) : rkCo G' B x n v w f t ho al pt go := by
  obtain ⟨c1, ⟨c, c2, c3⟩, c4, c5, c6, c7⟩ := hC
  have hx : gK G x ≠ 0 := by rw [c1]; decide
  have K : ∀ k : Nat, k / 100 = 5 → k ≠ 505 → gI G' k x = gI G k x ∧ gP G' k x = gP G k x := fun k hk hn => h.2.1 k x hx (fun z => by
    rcases hks k z with q | q | q
    · simp [rkOc, hk] at q
    · exact hn q
    · omega)
  exact ⟨(h.1 x hx).trans c1, ⟨c, (K 500 rfl (by decide)).2.trans c2, rkCL_fr c3 h hks⟩, (K 501 rfl (by decide)).2.trans (c4.trans (by rw [rkAt_same h1])), (K 502 rfl (by decide)).1.trans c5, (K 503 rfl (by decide)).1.trans c6, (K 504 rfl (by decide)).1.trans c7⟩
theorem rkCk_fr {j : Int} {x : Nat} (hC : rkCk G B R j x) (h : rkFr ks ls G G') (hks : ∀ k ∈ ks, rkOc k = false ∨ k = 505 ∨ k = 901) (h1 : gL G' (B 1) = gL G (B 1)) : rkCk G' B R j x := by
  obtain ⟨t, go, c1, c2⟩ := hC
  exact ⟨t, go, rkCo_fr c1 h hks h1, c2⟩
theorem rkC_k (hC : rkC G B R) {j : Int} (h0 : 0 ≤ j) (h1 : j < R 34 0) : gK G (rkAt G (B 8) j) = 5 := by
  obtain ⟨t, go, c1, -⟩ := hC.2.1 j h0 h1
  exact c1.1
/-- nothing of the jar is touched -/
theorem rkC_fr (hB : rkB G B) (hC : rkC G B R) (h : rkFr ks ls G G') (hks : ∀ k ∈ ks, rkOc k = false) (hl1 : B 1 ∉ ls) (hl8 : B 8 ∉ ls) : rkC G' B R := by
  have e1 := h.2.2.1 (B 1) (by rw [hB.2.1.1]; decide) hl1
  have e8 := h.2.2.1 (B 8) (by rw [hB.2.1.2.2.2.2.2.1]; decide) hl8
  have e9 : gI G' 901 (B 6) = gI G 901 (B 6) := fc_I h hks (by rw [hB.1.2.1]; decide) rfl
  have e5 : ∀ i, 0 ≤ i → i < R 34 0 → gI G' 505 (rkAt G (B 8) i) = gI G 505 (rkAt G (B 8) i) := fun i i0 i1 => fc_I h hks (by rw [rkC_k hC i0 i1]; decide) rfl
  obtain ⟨c1, c2, c3, c4, c5, c6⟩ := hC
  refine ⟨by rw [e8]; exact c1, fun j j0 j1 => ?_, fun i j hi hj e => ?_, fun i j hi hj => ?_, by rw [e9]; exact c5, fun i i0 i1 => ?_⟩
  · rw [rkAt_same e8]
    exact rkCk_fr (c2 j j0 j1) h (fun k hk => Or.inl (hks k hk)) e1
  · rw [rkAt_same e8, rkAt_same e8] at e
    exact c3 i j hi hj e
  · rw [rkAt_same e8, rkAt_same e8, e5 i hi.1 hi.2, e5 j hj.1 hj.2]
    exact c4 i j hi hj
  · rw [rkAt_same e8, e5 i i0 i1, e9]
    exact c6 i i0 i1
/-- the reference's other rows change -/
theorem rkC_R (hC : rkC G B R) (h : ∀ f, 34 ≤ f → f ≤ 43 → S f = R f) (h1 : R 1 0 ≤ S 1 0) : rkC G B S := by
  obtain ⟨c1, c2, c3, c4, c5, c6⟩ := hC
  have e34 := h 34 (by decide) (by decide)
  unfold rkC rkCk
  rw [h 34 (by decide) (by decide), h 35 (by decide) (by decide), h 36 (by decide) (by decide), h 37 (by decide) (by decide), h 38 (by decide) (by decide), h 39 (by decide) (by decide), h 40 (by decide) (by decide), h 41 (by decide) (by decide), h 42 (by decide) (by decide), h 43 (by decide) (by decide)]
  exact ⟨c1, c2, c3, c4, ⟨c5.1, Int.le_trans c5.2 h1⟩, fun i i0 i1 => ⟨(c6 i i0 i1).1, Int.lt_of_lt_of_le (c6 i i0 i1).2 h1⟩⟩
/-- one is used -/
theorem rkC_use (hB : rkB G B) (hC : rkC G B R) {k : Int} (hk : 0 ≤ k ∧ k < R 34 0) (h : ∀ f, 34 ≤ f → f ≤ 42 → S f = R f) (h43 : ∀ i : Nat, S 43 i = if i = k.toNat then R 1 0 else R 43 i) (h1 : S 1 0 = R 1 0 + 1) : rkC (sI (sI G 901 (B 6) (gI G 901 (B 6) + 1)) 505 (rkAt G (B 8) k) (gI G 901 (B 6) + 1)) B S := by
  have hf : rkFr [505, 901] [] G (sI (sI G 901 (B 6) (gI G 901 (B 6) + 1)) 505 (rkAt G (B 8) k) (gI G 901 (B 6) + 1)) := fr_sI (List.mem_cons_self) (by decide) (fr_sI (List.mem_cons_of_mem _ List.mem_cons_self) (by decide) fr_rfl)
  obtain ⟨c1, c2, c3, c4, c5, c6⟩ := id hC
  have e34 : S 34 0 = R 34 0 := by rw [h 34 (by decide) (by decide)]
  have e9 : gI (sI (sI G 901 (B 6) (gI G 901 (B 6) + 1)) 505 (rkAt G (B 8) k) (gI G 901 (B 6) + 1)) 901 (B 6) = gI G 901 (B 6) + 1 := show u2 (gI G) 901 (B 6) (gI G 901 (B 6) + 1) 901 (B 6) = _ from u2_s
  have e5 : ∀ i, 0 ≤ i → i < R 34 0 → gI (sI (sI G 901 (B 6) (gI G 901 (B 6) + 1)) 505 (rkAt G (B 8) k) (gI G 901 (B 6) + 1)) 505 (rkAt G (B 8) i) = if i = k then gI G 901 (B 6) + 1 else gI G 505 (rkAt G (B 8) i) := by
    intro i i0 i1
    show u2 (gI (sI G 901 (B 6) (gI G 901 (B 6) + 1))) 505 (rkAt G (B 8) k) (gI G 901 (B 6) + 1) 505 (rkAt G (B 8) i) = _
    by_cases c : i = k
    · rw [if_pos c, c, u2_s]
    · rw [if_neg c, u2_a (fun z => c (c3 i k ⟨i0, i1⟩ hk z))]
      rfl
  refine ⟨by rw [e34]; exact c1, fun j j0 j1 => ?_, fun i j hi hj e => ?_, fun i j hi hj => ?_, ?_, fun i i0 i1 => ?_⟩
  · rw [e34] at j1
    obtain ⟨t, go, d1, d2⟩ := rkCk_fr (c2 j j0 j1) hf (fun k hk => by simp at hk; rcases hk with rfl | rfl; exact Or.inr (Or.inl rfl); exact Or.inr (Or.inr rfl)) rfl
    unfold rkCk
    rw [h 35 (by decide) (by decide), h 36 (by decide) (by decide), h 37 (by decide) (by decide), h 38 (by decide) (by decide), h 39 (by decide) (by decide), h 40 (by decide) (by decide), h 41 (by decide) (by decide), h 42 (by decide) (by decide)]
    exact ⟨t, go, d1, d2⟩
  · rw [e34] at hi hj
    exact c3 i j hi hj e
  · rw [e34] at hi hj
    show gI _ 505 (rkAt G (B 8) i) < gI _ 505 (rkAt G (B 8) j) ↔ _
    rw [e5 i hi.1 hi.2, e5 j hj.1 hj.2, h43, h43]
    have q1 := c6 i hi.1 hi.2
    have q2 := c6 j hj.1 hj.2
    have q3 := c4 i j hi hj
    by_cases ci : i = k
    · by_cases cj : j = k
      · rw [if_pos ci, if_pos cj, if_pos (by omega), if_pos (by omega)]
        omega
      · rw [if_pos ci, if_neg cj, if_pos (by omega), if_neg (by omega)]
        omega
    · by_cases cj : j = k
      · rw [if_neg ci, if_pos cj, if_neg (by omega), if_pos (by omega)]
        omega
      · rw [if_neg ci, if_neg cj, if_neg (by omega), if_neg (by omega)]
        exact q3
  · rw [e9, h1]
    omega
  · rw [e34] at i1
    show gI _ 505 (rkAt G (B 8) i) ≤ _ ∧ _
    rw [e5 i i0 i1, e9, h43, h1]
    have q1 := c6 i i0 i1
    by_cases ci : i = k
    · rw [if_pos ci, if_pos (by omega)]
      omega
    · rw [if_neg ci, if_neg (by omega)]
      omega
theorem rkAt_erase {b : Nat} {i n : Int} (hl : ((gL G b).length : Int) = n) (hi : 0 ≤ i ∧ i < n) (h : gL G' b = (gL G b).eraseIdx i.toNat) {j : Int} (hj : 0 ≤ j ∧ j < n - 1) : rkAt G' b j = rkAt G b (if i ≤ j then j + 1 else j) := by
  unfold rkAt
  rw [h, List.getD_eq_getElem?_getD, List.getD_eq_getElem?_getD, List.getElem?_eraseIdx]
  by_cases c : i ≤ j
  · rw [if_neg (by omega), if_pos c, show (j + 1).toNat = j.toNat + 1 by omega]
  · rw [if_pos (by omega), if_neg c]
/-- one goes -/
theorem rkC_drop (hB : rkB G B) (hC : rkC G B R) {i : Int} (hi : 0 ≤ i ∧ i < R 34 0) (h : rkFr [] [B 8] G G') (h8 : gL G' (B 8) = (gL G (B 8)).eraseIdx i.toNat) : rkC G' B (rDrops R i) := by
  have hne : B 1 ≠ B 8 := hB.2.2.2.2.2.2.2.1
  have e1 := h.2.2.1 (B 1) (by rw [hB.2.1.1]; decide) (by simpa using hne)
  have e9 : gI G' 901 (B 6) = gI G 901 (B 6) := (h.2.1 901 (B 6) (by rw [hB.1.2.1]; decide) List.not_mem_nil).1
  obtain ⟨c1, c2, c3, c4, c5, c6⟩ := id hC
  have e34 : rDrops R i 34 0 = R 34 0 - 1 := by
    unfold rDrops rShift
    rw [if_neg (by omega), u2_s]
  have eo : ∀ f j, f < 34 → rDrops R i f j = R f j := fun f j hf => by
    unfold rDrops rShift
    rw [if_neg (by omega), u2_k (by omega)]
  have er : ∀ f, 35 ≤ f → f ≤ 43 → ∀ j : Int, 0 ≤ j → j < R 34 0 - 1 → rDrops R i f j.toNat = R f (if i ≤ j then j + 1 else j).toNat := fun f h1 h2 j j0 j1 => by
    unfold rDrops rShift
    by_cases c : i ≤ j
    · rw [if_pos ⟨⟨h1, h2⟩, by omega, by omega⟩, u2_k (by omega), if_pos c, show (j + 1).toNat = j.toNat + 1 by omega]
    · rw [if_neg (by omega), u2_k (by omega), if_neg c]
  have ea : ∀ j : Int, 0 ≤ j → j < R 34 0 - 1 → rkAt G' (B 8) j = rkAt G (B 8) (if i ≤ j then j + 1 else j) := fun j j0 j1 => rkAt_erase c1 hi h8 ⟨j0, j1⟩
  have eb : ∀ j : Int, 0 ≤ j → j < R 34 0 - 1 → 0 ≤ (if i ≤ j then j + 1 else j) ∧ (if i ≤ j then j + 1 else j) < R 34 0 := fun j j0 j1 => by split <;> omega
  have e5 : ∀ k, 0 ≤ k → k < R 34 0 → gI G' 505 (rkAt G (B 8) k) = gI G 505 (rkAt G (B 8) k) := fun k k0 k1 => (h.2.1 505 _ (by rw [rkC_k hC k0 k1]; decide) List.not_mem_nil).1
  have einj : ∀ p q : Int, (if i ≤ p then p + 1 else p) = (if i ≤ q then q + 1 else q) → p = q := fun p q e => by
    split at e <;> split at e <;> omega
  refine ⟨by rw [h8, List.length_eraseIdx, if_pos (by omega), e34]; omega, fun j j0 j1 => ?_, fun p q hp hq e => ?_, fun p q hp hq => ?_, ?_, fun k k0 k1 => ?_⟩
  · rw [e34] at j1
    have b := eb j j0 j1
    rw [ea j j0 j1]
    obtain ⟨t, go, d1, d2⟩ := rkCk_fr (c2 _ b.1 b.2) h (fun k hk => by cases hk) e1
    refine ⟨t, go, ?_, ?_⟩
    · rw [er 35 (by decide) (by decide) j j0 j1, er 36 (by decide) (by decide) j j0 j1, er 37 (by decide) (by decide) j j0 j1, er 38 (by decide) (by decide) j j0 j1, er 39 (by decide) (by decide) j j0 j1, er 40 (by decide) (by decide) j j0 j1, er 41 (by decide) (by decide) j j0 j1]
      exact d1
    · rw [er 38 (by decide) (by decide) j j0 j1, er 41 (by decide) (by decide) j j0 j1, er 42 (by decide) (by decide) j j0 j1]
      exact d2
  · rw [e34] at hp hq
    rw [ea p hp.1 hp.2, ea q hq.1 hq.2] at e
    exact einj p q (c3 _ _ (eb p hp.1 hp.2) (eb q hq.1 hq.2) e)
  · rw [e34] at hp hq
    have b1 := eb p hp.1 hp.2
    have b2 := eb q hq.1 hq.2
    rw [ea p hp.1 hp.2, ea q hq.1 hq.2, e5 _ b1.1 b1.2, e5 _ b2.1 b2.2, er 43 (by decide) (by decide) p hp.1 hp.2, er 43 (by decide) (by decide) q hq.1 hq.2]
    exact c4 _ _ b1 b2
  · rw [e9, eo 1 0 (by decide)]
    exact c5
  · rw [e34] at k1
    have b := eb k k0 k1
    rw [ea k k0 k1, e5 _ b.1 b.2, e9, er 43 (by decide) (by decide) k k0 k1, eo 1 0 (by decide)]
    exact c6 _ b.1 b.2
end JAR
