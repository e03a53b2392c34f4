/-! who goes first: the least is one, and the reference finds it -/
def rkCd (R : RT) : Prop := ∀ i j : Nat, (i : Int) < R 34 0 → (j : Int) < R 34 0 → R 43 i = R 43 j → i = j
def rkLs (R : RT) (p k : Nat) : Prop := (rHas (R 40 p) 1 = rHas (R 40 k) 1 ∧ R 43 p < R 43 k) ∨ (rHas (R 40 p) 1 = false ∧ rHas (R 40 k) 1 = true)
def rkMn (R : RT) (al si w p n : Int) : Prop := (0 ≤ p ∧ p < n ∧ rAmong R p al si w = true) ∧ ∀ j : Nat, (j : Int) < n → rAmong R j al si w = true → j = p.toNat ∨ rkLs R p.toNat j
theorem rkMn_one {R : RT} {al si w p q n : Int} (hp : rkMn R al si w p n) (hq : rkMn R al si w q n) : p = q := by
  obtain ⟨⟨p0, p1, p2⟩, p3⟩ := hp
  obtain ⟨⟨q0, q1, q2⟩, q3⟩ := hq
  have a := p3 q.toNat (by omega) (by rw [Int.toNat_of_nonneg q0]; exact q2)
  have b := q3 p.toNat (by omega) (by rw [Int.toNat_of_nonneg p0]; exact p2)
  rcases a with a | a
  · omega
  · rcases b with b | b
    · omega
    · exfalso
      rcases a with ⟨a1, a2⟩ | ⟨a1, a2⟩ <;> rcases b with ⟨b1, b2⟩ | ⟨b1, b2⟩
      · omega
      · rw [b1, b2] at a1
        cases a1
      · rw [a1, a2] at b1
        cases b1
      · rw [a1] at b2
        cases b2
theorem rEv1_mn {R : RT} {al si w : Int} (hd : rkCd R) : ∀ n : Nat, (n : Int) ≤ R 34 0 → (rEv1 R al si w n = -1 ∧ ∀ j : Nat, j < n → rAmong R j al si w = true → rHas (R 40 j) 1 = true) ∨
    ((0 ≤ rEv1 R al si w n ∧ rEv1 R al si w n < n ∧ rAmong R (rEv1 R al si w n) al si w = true ∧ rHas (R 40 (rEv1 R al si w n).toNat) 1 = false) ∧ ∀ j : Nat, j < n → rAmong R j al si w = true → rHas (R 40 j) 1 = false → j = (rEv1 R al si w n).toNat ∨ R 43 (rEv1 R al si w n).toNat < R 43 j) := by
  intro n
  induction n with
  | zero => intro _; exact Or.inl ⟨rfl, fun j hj => by omega⟩
  | succ n ih =>
    intro hn
    have ih := ih (by omega)
    rw [rEv1]
    by_cases c : (rAmong R n al si w && !rHas (R 40 n) 1) = true ∧ (rEv1 R al si w n = -1 ∨ R 43 n < R 43 (rEv1 R al si w n).toNat)
    · rw [if_pos c]
      have c1 := (Bool.and_eq_true _ _).mp c.1
      have c2 : rHas (R 40 n) 1 = false := by simpa using c1.2
      refine Or.inr ⟨⟨by omega, by omega, c1.1, by rw [Int.toNat_natCast]; exact c2⟩, fun j hj ha hs => ?_⟩
      rw [Int.toNat_natCast]
      by_cases cj : j = n
      · exact Or.inl cj
      · rcases ih with ⟨i1, i2⟩ | ⟨i1, i2⟩
        · rw [i2 j (by omega) ha] at hs
          cases hs
        · right
          rcases c.2 with q | q
          · omega
          · rcases i2 j (by omega) ha hs with z | z
            · rw [z]; exact q
            · omega
    · rw [if_neg c]
      rcases ih with ⟨i1, i2⟩ | ⟨i1, i2⟩
      · refine Or.inl ⟨i1, fun j hj ha => ?_⟩
        by_cases cj : j = n
        · subst cj
          cases q : rHas (R 40 j) 1
          · exact absurd ⟨by rw [ha, q]; rfl, Or.inl i1⟩ c
          · rfl
        · exact i2 j (by omega) ha
      · refine Or.inr ⟨⟨i1.1, by omega, i1.2.2⟩, fun j hj ha hs => ?_⟩
        by_cases cj : j = n
        · subst cj
          right
          have h9 : ¬ R 43 j < R 43 (rEv1 R al si w j).toNat := fun z => c ⟨by rw [ha, hs]; rfl, Or.inr z⟩
          have h8 : ¬ R 43 j = R 43 (rEv1 R al si w j).toNat := fun z => by
            have := hd j (rEv1 R al si w j).toNat (by omega) (by omega) z
            omega
          omega
        · exact i2 j (by omega) ha hs
theorem rEv2_mn {R : RT} {al si w : Int} (hC : RC R) (hd : rkCd R) (hs : ∀ j : Nat, (j : Int) < R 34 0 → rAmong R j al si w = true → rHas (R 40 j) 1 = true) : ∀ (m : Nat) (k b : Int), 0 ≤ k → k ≤ R 34 0 → (R 34 0 - k).toNat = m →
    ((b = -1 ∧ ∀ j : Nat, (j : Int) < k → rAmong R j al si w = true → False) ∨ ((0 ≤ b ∧ b < k ∧ rAmong R b al si w = true) ∧ ∀ j : Nat, (j : Int) < k → rAmong R j al si w = true → j = b.toNat ∨ R 43 b.toNat < R 43 j)) →
    ((rEv2 R al si w 12 k b = -1 ∧ ∀ j : Nat, (j : Int) < R 34 0 → rAmong R j al si w = true → False) ∨ ((0 ≤ rEv2 R al si w 12 k b ∧ rEv2 R al si w 12 k b < R 34 0 ∧ rAmong R (rEv2 R al si w 12 k b) al si w = true) ∧ ∀ j : Nat, (j : Int) < R 34 0 → rAmong R j al si w = true → j = (rEv2 R al si w 12 k b).toNat ∨ R 43 (rEv2 R al si w 12 k b).toNat < R 43 j)) := by
  intro m
  induction m with
  | zero =>
    intro k b h0 h1 h2 h3
    rw [rEv2_stop (by omega)]
    rw [show R 34 0 = k by omega]
    exact h3
  | succ m ih =>
    intro k b h0 h1 h2 h3
    have hsec : b = -1 ∨ rHas (R 40 b.toNat) 1 = true := by
      rcases h3 with h3 | h3
      · exact Or.inl h3.1
      · exact Or.inr (hs b.toNat (by omega) (by rw [Int.toNat_of_nonneg h3.1.1]; exact h3.1.2.2))
    rw [rEv2_step hC h0 ⟨by omega, hsec⟩]
    refine ih (k + 1) _ (by omega) (by omega) (by omega) ?_
    have ek : ((k.toNat : Nat) : Int) = k := Int.toNat_of_nonneg h0
    by_cases c : rAmong R k al si w = true ∧ (b = -1 ∨ R 43 k.toNat < R 43 b.toNat)
    · rw [if_pos c]
      refine Or.inr ⟨⟨h0, by omega, c.1⟩, fun j hj ha => ?_⟩
      by_cases cj : (j : Int) = k
      · left; omega
      · rcases h3 with ⟨i1, i2⟩ | ⟨i1, i2⟩
        · exact (i2 j (by omega) ha).elim
        · right
          rcases c.2 with q | q
          · omega
          · rcases i2 j (by omega) ha with z | z
            · rw [z]; exact q
            · omega
    · rw [if_neg c]
      rcases h3 with ⟨i1, i2⟩ | ⟨i1, i2⟩
      · refine Or.inl ⟨i1, fun j hj ha => ?_⟩
        by_cases cj : (j : Int) = k
        · exact c ⟨by rw [← cj]; exact ha, Or.inl i1⟩
        · exact i2 j (by omega) ha
      · refine Or.inr ⟨⟨i1.1, by omega, i1.2.2⟩, fun j hj ha => ?_⟩
        by_cases cj : (j : Int) = k
        · right
          have h9 : ¬ R 43 k.toNat < R 43 b.toNat := fun z => c ⟨by rw [← cj]; exact ha, Or.inr z⟩
          have h8 : ¬ R 43 k.toNat = R 43 b.toNat := fun z => by
            have := hd k.toNat b.toNat (by omega) (by omega) z
            omega
          rw [show j = k.toNat by omega]
          omega
        · exact i2 j (by omega) ha
theorem rEv_mn {R : RT} {al si w : Int} (hC : RC R) (hd : rkCd R) (h : ∃ j : Nat, (j : Int) < R 34 0 ∧ rAmong R j al si w = true) : rkMn R al si w (rEv R al si w) (R 34 0) := by
  have h1 := rEv1_mn (al := al) (si := si) (w := w) hd (R 34 0).toNat (by have := hC.1; omega)
  have hn := hC.1
  unfold rEv
  rcases h1 with ⟨i1, i2⟩ | ⟨i1, i2⟩
  · rw [i1]
    have hs : ∀ j : Nat, (j : Int) < R 34 0 → rAmong R j al si w = true → rHas (R 40 j) 1 = true := fun j hj ha => i2 j (by omega) ha
    have h2 := rEv2_mn hC hd hs (R 34 0 - 0).toNat 0 (-1) (Int.le_refl 0) hn.1 rfl (Or.inl ⟨rfl, fun j hj => by omega⟩)
    rcases h2 with ⟨q1, q2⟩ | ⟨q1, q2⟩
    · obtain ⟨j, j1, j2⟩ := h
      exact (q2 j j1 j2).elim
    · refine ⟨q1, fun j hj ha => ?_⟩
      rcases q2 j hj ha with z | z
      · exact Or.inl z
      · exact Or.inr (Or.inl ⟨(hs _ (by omega) (by rw [Int.toNat_of_nonneg q1.1]; exact q1.2.2)).trans (hs j hj ha).symm, z⟩)
  · rw [rEv2_stop (fun z => by
      rcases z.2 with q | q
      · omega
      · rw [i1.2.2.2] at q
        cases q)]
    refine ⟨⟨i1.1, by omega, i1.2.2.1⟩, fun j hj ha => ?_⟩
    cases q : rHas (R 40 j) 1
    · rcases i2 j (by omega) ha q with z | z
      · exact Or.inl z
      · exact Or.inr (Or.inl ⟨by rw [i1.2.2.2, q], z⟩)
    · exact Or.inr (Or.inr ⟨i1.2.2.2, q⟩)
/-- one goes: one less among them -/
theorem rAmong_drop {R : RT} {i al si w : Int} (hH : RH R) (hC : RC R) (hi : 0 ≤ i ∧ i < R 34 0) (j : Nat) (hj : (j : Int) < R 34 0 - 1) : rAmong (rDrops R i) j al si w = rAmong R (if i ≤ (j : Int) then (j : Int) + 1 else j) al si w := by
  have e4 : rDrops R i 4 = R 4 := funext fun x => rDrops_out (Or.inl (by decide)) x
  have e6 : rDrops R i 6 = R 6 := funext fun x => rDrops_out (Or.inl (by decide)) x
  have es : ∀ x, rSiteOf (rDrops R i) x = rSiteOf R x := by
    have eu : ∀ (n : Nat) (b : Int), rUp (rDrops R i) n b = rUp R n b := by
      intro n
      induction n with
      | zero => intro b; rfl
      | succ n ih =>
        intro b
        unfold rUp
        rw [e4, e6, ih]
    intro x
    unfold rSiteOf
    rw [e6, eu]
  have er : ∀ f, 35 ≤ f → f ≤ 43 → rDrops R i f j = R f (if i ≤ (j : Int) then (j : Int) + 1 else j).toNat := fun f h1 h2 => by
    unfold rDrops rShift
    by_cases c : i ≤ (j : Int)
    · rw [if_pos ⟨⟨h1, h2⟩, c, by omega⟩, u2_k (by omega), if_pos c, show ((j : Int) + 1).toNat = j + 1 by omega]
    · rw [if_neg (by omega), u2_k (by omega), if_neg c, Int.toNat_natCast]
  unfold rAmong
  rw [es, Int.toNat_natCast, er 37 (by decide) (by decide), er 41 (by decide) (by decide)]
theorem rCount_drop {R : RT} {i al si w : Int} (hH : RH R) (hC : RC R) (hi : 0 ≤ i ∧ i < R 34 0) (ha : rAmong R i al si w = true) : rCount (rDrops R i) al si w (rDrops R i 34 0).toNat = rCount R al si w (R 34 0).toNat - 1 := by
  have hn := hC.1
  have key : ∀ m : Nat, (m : Int) < R 34 0 → rCount (rDrops R i) al si w m = if (m : Int) ≤ i then rCount R al si w m else rCount R al si w (m + 1) - 1 := by
    intro m
    induction m with
    | zero =>
      intro _
      rw [if_pos (by omega)]
      rfl
    | succ m ih =>
      intro hm
      rw [rCount, ih (by omega), rAmong_drop hH hC hi m (by omega)]
      by_cases c : i ≤ (m : Int)
      · rw [if_pos c, if_neg (show ¬ ((m + 1 : Nat) : Int) ≤ i by omega)]
        by_cases c2 : (m : Int) = i
        · rw [if_pos (by omega)]
          show _ = rCount R al si w (m + 1) + bI (rAmong R ((m + 1 : Nat) : Int) al si w) - 1
          rw [show rCount R al si w (m + 1) = rCount R al si w m + bI (rAmong R m al si w) from rfl, c2, ha, show ((m + 1 : Nat) : Int) = i + 1 by omega]
          show _ + _ = _ + 1 + _ - 1
          omega
        · rw [if_neg (by omega)]
          show _ = rCount R al si w (m + 1) + bI (rAmong R ((m + 1 : Nat) : Int) al si w) - 1
          rw [show ((m + 1 : Nat) : Int) = (m : Int) + 1 by omega]
          omega
      · rw [if_neg c, if_pos (show (m : Int) ≤ i by omega), if_pos (show ((m + 1 : Nat) : Int) ≤ i by omega)]
        rfl
  rw [rDrops_34]
  have h9 := key (R 34 0 - 1).toNat (by omega)
  rw [h9]
  by_cases c : (((R 34 0 - 1).toNat : Nat) : Int) ≤ i
  · rw [if_pos c, show (R 34 0).toNat = (R 34 0 - 1).toNat + 1 by omega, rCount, show (((R 34 0 - 1).toNat : Nat) : Int) = i by omega, ha]
    show _ = _ + 1 - 1
    omega
  · rw [if_neg c, show (R 34 0 - 1).toNat + 1 = (R 34 0).toNat by omega]
theorem rCount_ex {R : RT} {al si w : Int} (h : 0 < rCount R al si w (R 34 0).toNat) (hC : RC R) : ∃ j : Nat, (j : Int) < R 34 0 ∧ rAmong R j al si w = true := by
  obtain ⟨j, j1, j2⟩ := rCount_pos _ h
  have := hC.1
  exact ⟨j, by omega, j2⟩
/-- the keys and the uses stay one by one -/
theorem rkCd_drop {R : RT} {i : Int} (hC : RC R) (hi : 0 ≤ i ∧ i < R 34 0) (h : rkCd R) : rkCd (rDrops R i) := by
  have er : ∀ j : Nat, (j : Int) < R 34 0 - 1 → rDrops R i 43 j = R 43 (if i ≤ (j : Int) then j + 1 else j) := fun j hj => by
    unfold rDrops rShift
    by_cases c : i ≤ (j : Int)
    · rw [if_pos ⟨⟨by decide, by decide⟩, c, hj⟩, u2_k (by omega), if_pos c]
    · rw [if_neg (by omega), u2_k (by omega), if_neg c]
  intro p q hp hq e
  rw [rDrops_34] at hp hq
  rw [er p hp, er q hq] at e
  have := h _ _ (by split <;> omega) (by split <;> omega) e
  split at this <;> split at this <;> omega
theorem rkCu_drop {R : RT} {i : Int} (hC : RC R) (hi : 0 ≤ i ∧ i < R 34 0) (h : rkCu R) : rkCu (rDrops R i) := by
  have er : ∀ f, 35 ≤ f → f ≤ 43 → ∀ j : Nat, (j : Int) < R 34 0 - 1 → rDrops R i f j = R f (if i ≤ (j : Int) then j + 1 else j) := fun f h1 h2 j hj => by
    unfold rDrops rShift
    by_cases c : i ≤ (j : Int)
    · rw [if_pos ⟨⟨h1, h2⟩, c, hj⟩, u2_k (by omega), if_pos c]
    · rw [if_neg (by omega), u2_k (by omega), if_neg c]
  intro p q hp hq e1 e2 e3 e4
  rw [rDrops_34] at hp hq
  rw [er 35 (by decide) (by decide) p hp, er 35 (by decide) (by decide) q hq] at e1
  rw [er 37 (by decide) (by decide) p hp, er 37 (by decide) (by decide) q hq] at e2
  rw [er 39 (by decide) (by decide) p hp, er 39 (by decide) (by decide) q hq] at e3
  rw [er 41 (by decide) (by decide) p hp, er 41 (by decide) (by decide) q hq] at e4
  have := h _ _ (by split <;> omega) (by split <;> omega) e1 e2 e3 e4
  split at this <;> split at this <;> omega
