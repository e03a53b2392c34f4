/-! the pool: the program's order and the reference's places -/
def rkCn (G : GT) (R : RT) (k : Int) (x : Nat) : Prop := gK G x = 4 ∧ gI G 400 x = (2 * R 47 k.toNat + R 46 k.toNat) * 10000 + R 48 k.toNat ∧ gI G 401 x = R 49 k.toNat ∧ gI G 402 x = rkPm (R 50 k.toNat) ∧ gI G 403 x = R 51 k.toNat
def rkQl (G : GT) (R : RT) (xs : List Nat) (σ τ : Int → Int) (n : Int) : Prop := (xs.length : Int) = n ∧ (∀ p, 0 ≤ p → p < n → ((0 ≤ σ p ∧ σ p < n) ∧ τ (σ p) = p) ∧ rkCn G R (σ p) (xs.getD p.toNat 0)) ∧ (∀ k, 0 ≤ k → k < n → (0 ≤ τ k ∧ τ k < n) ∧ σ (τ k) = k) ∧ ∀ p q, 0 ≤ p → p < q → q < n → R 52 (σ p).toNat < R 52 (σ q).toNat
def rkSl (R : RT) (k : Nat) : Prop := (0 ≤ R 46 k ∧ R 46 k ≤ 1) ∧ (0 ≤ R 47 k ∧ R 47 k ≤ 15) ∧ (1 ≤ R 48 k ∧ R 48 k ≤ 9999) ∧ (R 49 k = 0 ∨ R 49 k = 1) ∧ (-1 ≤ R 50 k ∧ R 50 k ≤ 31) ∧ (0 ≤ R 51 k ∧ R 51 k ≤ R 0 0) ∧ R 52 k < R 1 0
def rkPl (R : RT) : Prop := (0 ≤ R 44 0 ∧ R 44 0 ≤ 6) ∧ (∀ k : Nat, (k : Int) < R 44 0 → rkSl R k) ∧ ∀ i j : Nat, (i : Int) < R 44 0 → (j : Int) < R 44 0 → R 46 i = R 46 j → R 47 i = R 47 j → R 48 i = R 48 j → R 49 i = R 49 j → R 50 i = R 50 j → i = j
def rkQ (G : GT) (B : Nat → Nat) (R : RT) : Prop := (∃ σ τ, rkQl G R (gL G (B 9)) σ τ (R 44 0)) ∧ rkPl R ∧ gI G 1101 (B 7) = R 45 0
section POOL
variable {G G' : GT} {B : Nat → Nat} {R S : RT} {xs : List Nat} {σ τ : Int → Int} {n : Int}
theorem rkD_erase {p0 p : Int} (hp : 0 ≤ p0 ∧ p0 < (xs.length : Int)) (h : 0 ≤ p) : (xs.eraseIdx p0.toNat).getD p.toNat 0 = xs.getD (if p0 ≤ p then p + 1 else p).toNat 0 := by
  rw [List.getD_eq_getElem?_getD, List.getD_eq_getElem?_getD, List.getElem?_eraseIdx]
  by_cases c : p0 ≤ p
  · rw [if_neg (by omega), if_pos c, show (p + 1).toNat = p.toNat + 1 by omega]
  · rw [if_pos (by omega), if_neg c]
theorem rkD_app {x : Nat} {p : Int} (h : 0 ≤ p) : (xs ++ [x]).getD p.toNat 0 = if p = (xs.length : Int) then x else xs.getD p.toNat 0 := by
  rw [List.getD_eq_getElem?_getD, List.getD_eq_getElem?_getD, List.getElem?_append]
  by_cases c : p = (xs.length : Int)
  · rw [if_neg (by omega), if_pos c, show p.toNat - xs.length = 0 by omega]
    rfl
  · rw [if_neg c]
    split
    · rfl
    · rw [List.getElem?_eq_none (by show [x].length ≤ _; show 1 ≤ _; omega), List.getElem?_eq_none (by omega)]
theorem rkQl_one (h : rkQl G R xs σ τ n) {p q : Int} (hp : 0 ≤ p ∧ p < n) (hq : 0 ≤ q ∧ q < n) (e : σ p = σ q) : p = q := by
  have h1 := (h.2.1 p hp.1 hp.2).1.2
  have h2 := (h.2.1 q hq.1 hq.2).1.2
  rw [← h1, ← h2, e]
/-- one is closed -/
theorem rkQl_close (h : rkQl G R xs σ τ n) {p0 : Int} (hp : 0 ≤ p0 ∧ p0 < n) (hS : ∀ f : Nat, 46 ≤ f → f ≤ 52 → ∀ j : Int, 0 ≤ j → j < n - 1 → S f j.toNat = R f (if σ p0 ≤ j then j + 1 else j).toNat) : ∃ σ' τ', rkQl G S (xs.eraseIdx p0.toNat) σ' τ' (n - 1) := by
  have h' := h
  obtain ⟨h1, h2, h3, h4⟩ := h'
  obtain ⟨⟨k0, k1⟩, k2⟩ := (h2 p0 hp.1 hp.2).1
  have ne : ∀ p, 0 ≤ p → p < n - 1 → (0 ≤ (if p0 ≤ p then p + 1 else p) ∧ (if p0 ≤ p then p + 1 else p) < n) ∧ σ (if p0 ≤ p then p + 1 else p) ≠ σ p0 := fun p a b => by
    have hr : 0 ≤ (if p0 ≤ p then p + 1 else p) ∧ (if p0 ≤ p then p + 1 else p) < n := by split <;> omega
    refine ⟨hr, fun z => ?_⟩
    have := rkQl_one h hr hp z
    split at this <;> omega
  have up : ∀ k, 0 ≤ k → k < n → k ≠ σ p0 → (0 ≤ (if σ p0 < k then k - 1 else k) ∧ (if σ p0 < k then k - 1 else k) < n - 1) ∧ (if σ p0 ≤ (if σ p0 < k then k - 1 else k) then (if σ p0 < k then k - 1 else k) + 1 else (if σ p0 < k then k - 1 else k)) = k := fun k a b c => by
    by_cases d : σ p0 < k
    · rw [if_pos d, if_pos (by omega)]; omega
    · rw [if_neg d, if_neg (by omega)]; omega
  refine ⟨fun p => (if σ p0 < σ (if p0 ≤ p then p + 1 else p) then σ (if p0 ≤ p then p + 1 else p) - 1 else σ (if p0 ≤ p then p + 1 else p)), fun k => (if p0 < τ (if σ p0 ≤ k then k + 1 else k) then τ (if σ p0 ≤ k then k + 1 else k) - 1 else τ (if σ p0 ≤ k then k + 1 else k)), ?_, fun p a b => ?_, fun k a b => ?_, fun p q a b c => ?_⟩
  · rw [List.length_eraseIdx, if_pos (by omega)]
    omega
  · obtain ⟨hr, hn⟩ := ne p a b
    obtain ⟨⟨r1, r2⟩, r3⟩ := h2 _ hr.1 hr.2
    obtain ⟨u1, u2⟩ := up _ r1.1 r1.2 hn
    refine ⟨⟨u1, ?_⟩, ?_⟩
    · dsimp only
      rw [u2, r2]
      by_cases c : p0 ≤ p
      · rw [if_pos c, if_pos (by omega)]; omega
      · rw [if_neg c, if_neg (by omega)]
    · rw [rkD_erase (by omega) a]
      obtain ⟨c1, c2, c3, c4, c5⟩ := r3
      unfold rkCn
      dsimp only
      rw [hS 46 (by decide) (by decide) _ u1.1 u1.2, hS 47 (by decide) (by decide) _ u1.1 u1.2, hS 48 (by decide) (by decide) _ u1.1 u1.2, hS 49 (by decide) (by decide) _ u1.1 u1.2, hS 50 (by decide) (by decide) _ u1.1 u1.2, hS 51 (by decide) (by decide) _ u1.1 u1.2, u2]
      exact ⟨c1, c2, c3, c4, c5⟩
  · dsimp only
    have hk : 0 ≤ (if σ p0 ≤ k then k + 1 else k) ∧ (if σ p0 ≤ k then k + 1 else k) < n := by split <;> omega
    have hkn : (if σ p0 ≤ k then k + 1 else k) ≠ σ p0 := by split <;> omega
    obtain ⟨t1, t2⟩ := h3 _ hk.1 hk.2
    generalize e : (if σ p0 ≤ k then k + 1 else k) = k' at *
    have tn : τ k' ≠ p0 := fun z => hkn (by rw [← t2, z])
    have e2 : (if p0 ≤ (if p0 < τ k' then τ k' - 1 else τ k') then (if p0 < τ k' then τ k' - 1 else τ k') + 1 else (if p0 < τ k' then τ k' - 1 else τ k')) = τ k' := by
      by_cases d : p0 < τ k'
      · rw [if_pos d, if_pos (by omega)]; omega
      · rw [if_neg d, if_neg (by omega)]
    rw [e2, t2]
    refine ⟨by split <;> omega, ?_⟩
    split at e <;> split <;> omega
  · dsimp only
    obtain ⟨hr, hn⟩ := ne p a (by omega)
    obtain ⟨hr2, hn2⟩ := ne q (by omega) c
    obtain ⟨⟨r1, -⟩, -⟩ := h2 _ hr.1 hr.2
    obtain ⟨⟨s1, -⟩, -⟩ := h2 _ hr2.1 hr2.2
    obtain ⟨u1, u2⟩ := up _ r1.1 r1.2 hn
    obtain ⟨v1, v2⟩ := up _ s1.1 s1.2 hn2
    rw [hS 52 (by decide) (by decide) _ u1.1 u1.2, hS 52 (by decide) (by decide) _ v1.1 v1.2, u2, v2]
    refine h4 _ _ hr.1 ?_ hr2.2
    by_cases d : p0 ≤ p
    · rw [if_pos d, if_pos (by omega)]; omega
    · rw [if_neg d]
      split <;> omega
/-- one more, at the end -/
theorem rkQl_add (h : rkQl G R xs σ τ n) {x : Nat} (hn : 0 ≤ n) (hx : rkCn G' S n x) (ho : ∀ k y, 0 ≤ k → k < n → rkCn G R k y → rkCn G' S k y) (h52 : ∀ k : Int, 0 ≤ k → k < n → S 52 k.toNat = R 52 k.toNat) (hlt : ∀ k : Int, 0 ≤ k → k < n → R 52 k.toNat < S 52 n.toNat) : ∃ σ' τ', rkQl G' S (xs ++ [x]) σ' τ' (n + 1) := by
  obtain ⟨h1, h2, h3, h4⟩ := h
  refine ⟨fun p => if p = n then n else σ p, fun k => if k = n then n else τ k, ?_, fun p a b => ?_, fun k a b => ?_, fun p q a b c => ?_⟩
  · rw [List.length_append]
    show ((xs.length + 1 : Nat) : Int) = _
    omega
  · rw [rkD_app a, h1]
    dsimp only
    by_cases c : p = n
    · rw [if_pos c, if_pos c, if_pos rfl]
      exact ⟨⟨⟨hn, by omega⟩, c.symm⟩, hx⟩
    · obtain ⟨⟨r1, r2⟩, r3⟩ := h2 p a (by omega)
      rw [if_neg c, if_neg c, if_neg (by omega)]
      exact ⟨⟨⟨r1.1, by omega⟩, r2⟩, ho _ _ r1.1 r1.2 r3⟩
  · dsimp only
    by_cases c : k = n
    · rw [if_pos c, if_pos rfl]
      exact ⟨⟨hn, by omega⟩, c.symm⟩
    · obtain ⟨t1, t2⟩ := h3 k a (by omega)
      rw [if_neg c, if_neg (by omega)]
      exact ⟨⟨t1.1, by omega⟩, t2⟩
  · dsimp only
    obtain ⟨⟨r1, -⟩, -⟩ := h2 p a (by omega)
    rw [if_neg (by omega), h52 _ r1.1 r1.2]
    by_cases d : q = n
    · rw [if_pos d]
      exact hlt _ r1.1 r1.2
    · obtain ⟨⟨s1, -⟩, -⟩ := h2 q (by omega) (by omega)
      rw [if_neg d, h52 _ s1.1 s1.2]
      exact h4 p q a b (by omega)
/-- one is used again -/
theorem rkQl_use (h : rkQl G R xs σ τ n) {p0 : Int} (hp : 0 ≤ p0 ∧ p0 < n) (hx : rkCn G' S (σ p0) (xs.getD p0.toNat 0)) (ho : ∀ k y, 0 ≤ k → k < n → k ≠ σ p0 → rkCn G R k y → rkCn G' S k y) (h52 : ∀ k : Int, 0 ≤ k → k < n → k ≠ σ p0 → S 52 k.toNat = R 52 k.toNat) (hlt : ∀ k : Int, 0 ≤ k → k < n → R 52 k.toNat < S 52 (σ p0).toNat) : ∃ σ' τ', rkQl G' S (xs.eraseIdx p0.toNat ++ [xs.getD p0.toNat 0]) σ' τ' n := by
  have h' := h
  obtain ⟨h1, h2, h3, h4⟩ := h'
  obtain ⟨⟨k0, k1⟩, k2⟩ := (h2 p0 hp.1 hp.2).1
  have hle : (((xs.eraseIdx p0.toNat).length : Nat) : Int) = n - 1 := by
    rw [List.length_eraseIdx, if_pos (by omega)]
    omega
  have ne : ∀ p, 0 ≤ p → p < n - 1 → (0 ≤ (if p0 ≤ p then p + 1 else p) ∧ (if p0 ≤ p then p + 1 else p) < n) ∧ σ (if p0 ≤ p then p + 1 else p) ≠ σ p0 := fun p a b => by
    have hr : 0 ≤ (if p0 ≤ p then p + 1 else p) ∧ (if p0 ≤ p then p + 1 else p) < n := by split <;> omega
    refine ⟨hr, fun z => ?_⟩
    have := rkQl_one h hr hp z
    split at this <;> omega
  refine ⟨fun p => if p = n - 1 then σ p0 else σ (if p0 ≤ p then p + 1 else p), fun k => if k = σ p0 then n - 1 else (if p0 < τ k then τ k - 1 else τ k), ?_, fun p a b => ?_, fun k a b => ?_, fun p q a b c => ?_⟩
  · rw [List.length_append]
    show (((xs.eraseIdx p0.toNat).length + 1 : Nat) : Int) = _
    omega
  · rw [rkD_app a, hle]
    dsimp only
    by_cases c : p = n - 1
    · rw [if_pos c, if_pos c, if_pos rfl]
      exact ⟨⟨⟨k0, k1⟩, c.symm⟩, hx⟩
    · obtain ⟨hr, hn⟩ := ne p a (by omega)
      obtain ⟨⟨r1, r2⟩, r3⟩ := h2 _ hr.1 hr.2
      rw [if_neg c, if_neg c, if_neg hn, r2, rkD_erase (by omega) a]
      refine ⟨⟨r1, ?_⟩, ho _ _ r1.1 r1.2 hn r3⟩
      by_cases d : p0 ≤ p
      · rw [if_pos d, if_pos (by omega)]; omega
      · rw [if_neg d, if_neg (by omega)]
  · dsimp only
    by_cases c : k = σ p0
    · rw [if_pos c, if_pos rfl]
      exact ⟨by omega, c.symm⟩
    · obtain ⟨t1, t2⟩ := h3 k a b
      have tn : τ k ≠ p0 := fun z => c (by rw [← t2, z])
      rw [if_neg c]
      have e2 : (if p0 ≤ (if p0 < τ k then τ k - 1 else τ k) then (if p0 < τ k then τ k - 1 else τ k) + 1 else (if p0 < τ k then τ k - 1 else τ k)) = τ k := by
        by_cases d : p0 < τ k
        · rw [if_pos d, if_pos (by omega)]; omega
        · rw [if_neg d, if_neg (by omega)]
      have hb : 0 ≤ (if p0 < τ k then τ k - 1 else τ k) ∧ (if p0 < τ k then τ k - 1 else τ k) < n - 1 := by split <;> omega
      refine ⟨⟨hb.1, by omega⟩, ?_⟩
      rw [if_neg (show ¬ (if p0 < τ k then τ k - 1 else τ k) = n - 1 by omega), e2, t2]
  · dsimp only
    obtain ⟨hr, hn⟩ := ne p a (by omega)
    obtain ⟨⟨r1, -⟩, -⟩ := h2 _ hr.1 hr.2
    rw [if_neg (show ¬ p = n - 1 by omega), h52 _ r1.1 r1.2 hn]
    by_cases d : q = n - 1
    · rw [if_pos d]
      exact hlt _ r1.1 r1.2
    · obtain ⟨hr2, hn2⟩ := ne q (by omega) (by omega)
      obtain ⟨⟨s1, -⟩, -⟩ := h2 _ hr2.1 hr2.2
      rw [if_neg d, h52 _ s1.1 s1.2 hn2]
      refine h4 _ _ hr.1 ?_ hr2.2
      by_cases e : p0 ≤ p
      · rw [if_pos e, if_pos (by omega)]; omega
      · rw [if_neg e]
        split <;> omega
/-- the places of connections -/
theorem rkPl_close (hP : rkPl R) {i : Int} (hi : 0 ≤ i ∧ i < R 44 0) : rkPl (rCloses R i) ∧ (∀ f : Nat, 46 ≤ f → f ≤ 52 → ∀ j : Int, 0 ≤ j → j < R 44 0 - 1 → rCloses R i f j.toNat = R f (if i ≤ j then j + 1 else j).toNat) := by
  have hr : ∀ f : Nat, 46 ≤ f → f ≤ 52 → ∀ j : Int, 0 ≤ j → j < R 44 0 - 1 → rCloses R i f j.toNat = R f (if i ≤ j then j + 1 else j).toNat := fun f h1 h2 j j0 j1 => by
    unfold rCloses rShift
    by_cases c : i ≤ j
    · rw [if_pos ⟨⟨h1, h2⟩, by omega, by omega⟩, u2_k (by omega), if_pos c, show (j + 1).toNat = j.toNat + 1 by omega]
    · rw [if_neg (by omega), u2_k (by omega), if_neg c]
  have e44 : rCloses R i 44 0 = R 44 0 - 1 := rCloses_44
  have e0 := rCloses_out (R := R) (i := i) (f := 0) (Or.inl (by decide)) 0
  have e1 := rCloses_out (R := R) (i := i) (f := 1) (Or.inl (by decide)) 0
  obtain ⟨h1, h2, h3⟩ := hP
  have hn : ∀ k : Nat, (k : Int) < R 44 0 - 1 → (((if i ≤ (k : Int) then (k : Int) + 1 else k).toNat : Nat) : Int) < R 44 0 := fun k hk => by split <;> omega
  refine ⟨⟨by rw [e44]; omega, fun k hk => ?_, fun p q hp hq q1 q2 q3 q4 q5 => ?_⟩, hr⟩
  · rw [e44] at hk
    have := h2 _ (hn k hk)
    have E : ∀ f : Nat, 46 ≤ f → f ≤ 52 → rCloses R i f k = R f (if i ≤ (k : Int) then (k : Int) + 1 else k).toNat := fun f f1 f2 => by
      have := hr f f1 f2 k (by omega) hk
      rwa [Int.toNat_natCast] at this
    unfold rkSl
    rw [E 46 (by decide) (by decide), E 47 (by decide) (by decide), E 48 (by decide) (by decide), E 49 (by decide) (by decide), E 50 (by decide) (by decide), E 51 (by decide) (by decide), E 52 (by decide) (by decide), e0, e1]
    exact this
  · rw [e44] at hp hq
    have E : ∀ k : Nat, (k : Int) < R 44 0 - 1 → ∀ f : Nat, 46 ≤ f → f ≤ 52 → rCloses R i f k = R f (if i ≤ (k : Int) then (k : Int) + 1 else k).toNat := fun k hk f f1 f2 => by
      have := hr f f1 f2 k (by omega) hk
      rwa [Int.toNat_natCast] at this
    rw [E p hp 46 (by decide) (by decide), E q hq 46 (by decide) (by decide)] at q1
    rw [E p hp 47 (by decide) (by decide), E q hq 47 (by decide) (by decide)] at q2
    rw [E p hp 48 (by decide) (by decide), E q hq 48 (by decide) (by decide)] at q3
    rw [E p hp 49 (by decide) (by decide), E q hq 49 (by decide) (by decide)] at q4
    rw [E p hp 50 (by decide) (by decide), E q hq 50 (by decide) (by decide)] at q5
    have := h3 _ _ (hn p hp) (hn q hq) q1 q2 q3 q4 q5
    split at this <;> split at this <;> omega
theorem rkLineIs {a cr w : Int} {k : Nat} : rLineIs R a cr w k = true ↔ (R 46 k = R 8 a.toNat ∧ R 47 k = R 9 a.toNat ∧ R 48 k = rGate R a ∧ R 49 k = cr ∧ R 50 k = w) := by simp [rLineIs]
theorem rConF_one (hP : rkPl R) {a cr w : Int} {i : Nat} (hi : (i : Int) < R 44 0) (h : rLineIs R a cr w i = true) : rCF R a cr w = i := by
  have key : ∀ m : Nat, i < m → (m : Int) ≤ R 44 0 → rConF R a cr w m = i := by
    intro m
    induction m with
    | zero => intro z; omega
    | succ m ih =>
      intro h1 h2
      rw [rConF]
      by_cases c : rLineIs R a cr w m = true
      · rw [if_pos c]
        have z1 := rkLineIs.mp h
        have z2 := rkLineIs.mp c
        have := hP.2.2 m i (by omega) hi (z2.1.trans z1.1.symm) (z2.2.1.trans z1.2.1.symm) (z2.2.2.1.trans z1.2.2.1.symm) (z2.2.2.2.1.trans z1.2.2.2.1.symm) (z2.2.2.2.2.trans z1.2.2.2.2.symm)
        omega
      · rw [if_neg c]
        refine ih ?_ (by omega)
        rcases Nat.lt_or_ge i m with z | z
        · exact z
        · exact absurd (by rw [show m = i by omega]; exact h) c
  exact key _ (by omega) (by have := hP.1; omega)
theorem rConF_no (hP : rkPl R) {a cr w : Int} (h : ∀ k : Nat, (k : Int) < R 44 0 → ¬ rLineIs R a cr w k = true) : rCF R a cr w = -1 := by
  have key : ∀ m : Nat, (m : Int) ≤ R 44 0 → rConF R a cr w m = -1 := by
    intro m
    induction m with
    | zero => intro _; rfl
    | succ m ih =>
      intro h2
      rw [rConF, if_neg (h m (by omega))]
      exact ih (by omega)
  exact key _ (by have := hP.1; omega)
theorem rOldF_min {k : Nat} (hk : ∀ j : Nat, (j : Int) < n → j ≠ k → R 52 k < R 52 j) (h1 : (k : Int) < n) : rOldF R n.toNat = k := by
  have key : ∀ m : Nat, (m : Int) ≤ n → (k < m → rOldF R m = k) ∧ (m ≤ k → ∀ j : Nat, (j : Int) < n → j ≠ k → True) := by
    intro m
    induction m with
    | zero => intro _; exact ⟨fun z => by omega, fun _ _ _ _ => trivial⟩
    | succ m ih =>
      intro hm
      refine ⟨fun h2 => ?_, fun _ _ _ _ => trivial⟩
      rw [rOldF]
      have hl := rOldF_in R m
      by_cases c : m = k
      · subst c
        by_cases z : m = 0
        · subst z
          have e : rOldF R 0 = 0 := rfl
          rw [e]
          split <;> rfl
        · rw [if_pos (hk _ (by omega) (by omega))]
      · have := (ih (by omega)).1 (by omega)
        rw [this, if_neg]
        · have := hk m (by omega) c
          rw [Int.toNat_natCast]
          omega
  exact (key n.toNat (by omega)).1 (by omega)
end POOL
