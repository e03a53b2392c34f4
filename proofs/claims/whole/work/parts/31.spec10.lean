/-! a cookie kept, and the oldest leaving -/
theorem Fs.up {R S : RT} (h : Fs R S) : ∀ (n : Nat) (b : Int), rUp S n b = rUp R n b := by
  intro n
  induction n with
  | zero => intro b; rfl
  | succ n ih =>
    intro b
    rw [rUp, rUp, h 4 (by decide) (by decide), h 6 (by decide) (by decide), ih]
theorem Fs.site {R S : RT} (h : Fs R S) {x : Int} : rSiteOf S x = rSiteOf R x := by
  unfold rSiteOf
  rw [h 6 (by decide) (by decide), h.up]
theorem rDrops_Fs {R : RT} {i : Int} : Fs R (rDrops R i) := fun f h1 h2 => by
  funext j
  exact rDrops_out (Or.inl (by omega)) j
theorem rDrops_C {R : RT} {i : Int} (hC : RC R) (h : 0 ≤ i ∧ i < R 34 0) : RC (rDrops R i) := by
  have h1 := hC.1
  refine ⟨by rw [rDrops_34]; omega, ?_⟩
  intro j hj
  rw [rDrops_34] at hj
  have h3 : rDrops R i 3 0 = R 3 0 := rDrops_out (Or.inl (by decide)) 0
  rw [h3]
  have key : ∀ f, 35 ≤ f → f ≤ 43 → rDrops R i f j = if i ≤ (j : Int) then R f (j + 1) else R f j := by
    intro f a b
    unfold rDrops
    by_cases c : i ≤ (j : Int)
    · rw [rShift_in ⟨⟨a, b⟩, c, hj⟩, if_pos c, u2_k (by omega)]
    · rw [if_neg c]
      show (if (35 ≤ f ∧ f ≤ 43) ∧ i ≤ (j : Int) ∧ (j : Int) < R 34 0 - 1 then _ else _) = _
      rw [if_neg (fun z => c z.2.1), u2_k (by omega)]
  rw [key 37 (by decide) (by decide), key 39 (by decide) (by decide), key 35 (by decide) (by decide), key 36 (by decide) (by decide)]
  by_cases c : i ≤ (j : Int)
  · rw [if_pos c, if_pos c, if_pos c, if_pos c]
    exact hC.2 (j + 1) (by omega)
  · rw [if_neg c, if_neg c, if_neg c, if_neg c]
    exact hC.2 j (by omega)
theorem rEv2_pos {R : RT} {al si w : Int} : ∀ (n : Nat) (k b : Int), 0 ≤ k → (R 34 0 - k).toNat < n → -1 ≤ b → b < R 34 0 → (0 ≤ b ∨ ∃ j : Nat, k ≤ (j : Int) ∧ (j : Int) < R 34 0 ∧ rAmong R j al si w = true) → 0 ≤ rEv2 R al si w n k b ∧ rEv2 R al si w n k b < R 34 0 := by
  intro n
  induction n with
  | zero => intro k b _ h _ _ _; exact absurd h (Nat.not_lt_zero _)
  | succ n ih =>
    intro k b hk hn h0 h1 hx
    rw [rEv2]
    by_cases c : k < R 34 0 ∧ (b = -1 ∨ rHas (R 40 b.toNat) 1 = true)
    · rw [if_pos c]
      have g1 : 0 ≤ k + 1 := by clear hx ih; omega
      have g2 : (R 34 0 - (k + 1)).toNat < n := by clear hx ih; omega
      refine ih _ _ g1 g2 (by clear hx ih; split <;> omega) (by clear hx ih; split <;> omega) ?_
      rcases hx with hx | ⟨j, j1, j2, j3⟩
      · exact Or.inl (by split <;> omega)
      · by_cases d : (j : Int) = k
        · by_cases e : b = -1
          · exact Or.inl (by rw [if_pos ⟨by rw [← d]; exact j3, Or.inl e⟩]; omega)
          · exact Or.inl (by split <;> omega)
        · exact Or.inr ⟨j, by omega, j2, j3⟩
    · rw [if_neg c]
      rcases hx with hx | ⟨j, j1, j2, j3⟩
      · exact ⟨hx, h1⟩
      · by_cases e : b = -1
        · exact absurd ⟨by omega, Or.inl e⟩ c
        · exact ⟨by omega, h1⟩
theorem rEv_pos {R : RT} {al si w : Int} (hC : RC R) (h : ∃ j : Nat, (j : Int) < R 34 0 ∧ rAmong R j al si w = true) : 0 ≤ rEv R al si w ∧ rEv R al si w < R 34 0 := by
  obtain ⟨j, j1, j2⟩ := h
  have h1 := hC.1
  have h2 := rEv1_in R al si w (R 34 0).toNat
  exact rEv2_pos 12 0 _ (by decide) (by omega) h2.1 (by omega) (Or.inr ⟨j, by omega, j1, j2⟩)
theorem rCount_pos {R : RT} {al si w : Int} : ∀ n : Nat, 0 < rCount R al si w n → ∃ j : Nat, j < n ∧ rAmong R j al si w = true := by
  intro n
  induction n with
  | zero => intro h; rw [rCount] at h; omega
  | succ n ih =>
    intro h
    by_cases c : rAmong R n al si w = true
    · exact ⟨n, by omega, c⟩
    · rw [rCount, show rAmong R n al si w = false by simpa using c] at h
      obtain ⟨j, a, b⟩ := ih (by rw [show bI false = 0 from rfl] at h; omega)
      exact ⟨j, by omega, b⟩
theorem rEv_c {R : RT} {al si w : Int} (hC : RC R) (h : 0 < rCount R al si w (R 34 0).toNat) : 0 ≤ rEv R al si w ∧ rEv R al si w < R 34 0 := by
  obtain ⟨j, a, b⟩ := rCount_pos _ h
  exact rEv_pos hC ⟨j, by omega, b⟩
theorem rEv_a {R : RT} {al si w : Int} (hC : RC R) (ha : ¬ al = 0) (h : 0 < R 34 0) : 0 ≤ rEv R al si w ∧ rEv R al si w < R 34 0 :=
  rEv_pos hC ⟨0, h, by unfold rAmong; rw [decide_eq_true ha]; rfl⟩
def rEs1 (si w : Int) : Nat → RT → RT
  | 0, R => R
  | n + 1, R => if 4 < rCount R 0 si w (R 34 0).toNat then rEs1 si w n (rDrops R (rEv R 0 si w)) else R
def rE1 (si w : Int) (R : RT) : RT := rEs1 si w (R 34 0).toNat R
def rEs2 (si w : Int) : Nat → RT → RT
  | 0, R => R
  | n + 1, R => if 10 < R 34 0 then rEs2 si w n (rDrops R (rEv R 1 si w)) else R
def rE2 (si w : Int) (R : RT) : RT := rEs2 si w (R 34 0).toNat R
theorem rE1_step {si w : Int} {R : RT} (h : 4 < rCount R 0 si w (R 34 0).toNat) : rE1 si w R = rE1 si w (rDrops R (rEv R 0 si w)) := by
  have h1 := rCount_in R 0 si w (R 34 0).toNat
  unfold rE1
  rw [rDrops_34]
  obtain ⟨q, hq⟩ : ∃ q, (R 34 0).toNat = q + 1 := ⟨(R 34 0).toNat - 1, by omega⟩
  rw [show (R 34 0 - 1).toNat = q by omega]
  conv => lhs; rw [hq, rEs1]
  rw [if_pos h]
theorem rE1_stop {si w : Int} {R : RT} (h : ¬ 4 < rCount R 0 si w (R 34 0).toNat) : rE1 si w R = R := by
  unfold rE1
  by_cases c : (R 34 0).toNat = 0
  · rw [c, rEs1]
  · obtain ⟨q, hq⟩ : ∃ q, (R 34 0).toNat = q + 1 := ⟨(R 34 0).toNat - 1, by omega⟩
    conv => lhs; rw [hq, rEs1]
    rw [if_neg h]
theorem rE2_step {si w : Int} {R : RT} (h : 10 < R 34 0) : rE2 si w R = rE2 si w (rDrops R (rEv R 1 si w)) := by
  unfold rE2
  rw [rDrops_34]
  obtain ⟨q, hq⟩ : ∃ q, (R 34 0).toNat = q + 1 := ⟨(R 34 0).toNat - 1, by omega⟩
  rw [show (R 34 0 - 1).toNat = q by omega]
  conv => lhs; rw [hq, rEs2]
  rw [if_pos h]
theorem rE2_stop {si w : Int} {R : RT} (h : ¬ 10 < R 34 0) : rE2 si w R = R := by
  unfold rE2
  by_cases c : (R 34 0).toNat = 0
  · rw [c, rEs2]
  · obtain ⟨q, hq⟩ : ∃ q, (R 34 0).toNat = q + 1 := ⟨(R 34 0).toNat - 1, by omega⟩
    conv => lhs; rw [hq, rEs2]
    rw [if_neg h]
def rStOwn (R : RT) (a : Int) : Bool := decide (R 20 a.toNat = -1) || decide (¬ R 6 (R 20 a.toNat).toNat = 0)
def rStWho (R : RT) (a : Int) : Int := if rStOwn R a = true then R 9 a.toNat else R 20 a.toNat
def rStWch (R : RT) (a w : Int) : Int := if rHas (R 22 a.toNat) 2 = true then w else -1
def rStF (R : RT) (a who wch : Int) : Nat → Int
  | 0 => -1
  | n + 1 => if R 35 n = R 18 a.toNat ∧ R 37 n = who ∧ R 39 n = R 21 a.toNat ∧ R 41 n = wch then (n : Int) else rStF R a who wch n
theorem rStF_in (R : RT) (a who wch : Int) : ∀ n, -1 ≤ rStF R a who wch n ∧ rStF R a who wch n < n := by
  intro n
  induction n with
  | zero => rw [rStF]; omega
  | succ n ih =>
    rw [rStF]
    split <;> omega
def rStFd (R : RT) (a w : Int) : Int := rStF R a (rStWho R a) (rStWch R a w) (R 34 0).toNat
def rSt0 (R : RT) (a w : Int) : RT := if rStFd R a w = -1 then u2 R 34 0 (R 34 0 + 1) else R
def rStI (R : RT) (a w : Int) : Int := if rStFd R a w = -1 then R 34 0 else rStFd R a w
def rStPut (T : RT) (a f own who wch : Int) : RT := u2 (u2 (u2 (u2 (u2 (u2 (u2 (u2 (u2 (u2 T 35 f.toNat (T 18 a.toNat)) 36 f.toNat (T 19 a.toNat)) 37 f.toNat who) 38 f.toNat own) 39 f.toNat (T 21 a.toNat)) 40 f.toNat (T 22 a.toNat)) 41 f.toNat wch) 42 f.toNat (if T 23 a.toNat = 0 then -1 else T 0 0 + T 23 a.toNat)) 43 f.toNat (T 1 0)) 1 0 (T 1 0 + 1)
def rSt1 (R : RT) (a w : Int) : RT := rStPut (rSt0 R a w) a (rStI R a w) (bI (rStOwn R a)) (rStWho R a) (rStWch R a w)
def rSets (R : RT) (a w : Int) : RT := if R 19 a.toNat = -1 ∨ rRefuses R a w = true then R else if R 23 a.toNat < 0 then (if rStFd R a w = -1 then R else rDrops R (rStFd R a w)) else
    rE2 (rSiteOf R (rStWho R a)) (rStWch R a w) (rE1 (rSiteOf R (rStWho R a)) (rStWch R a w) (rSt1 R a w))
theorem rSt0_Fs {R : RT} {a w : Int} : Fs R (rSt0 R a w) := by
  unfold rSt0
  split
  · exact Fs.refl.u (Or.inr (by decide))
  · exact Fs.refl
theorem rSt0_out {R : RT} {a w : Int} {f j : Nat} (h : f ≠ 34) : rSt0 R a w f j = R f j := by
  unfold rSt0
  split
  · exact u2_k h
  · rfl
theorem rStPut_Fs {T : RT} {a f own who wch : Int} : Fs T (rStPut T a f own who wch) :=
  ((((((((((Fs.refl.u (Or.inr (by decide))).u (Or.inr (by decide))).u (Or.inr (by decide))).u (Or.inr (by decide))).u (Or.inr (by decide))).u (Or.inr (by decide))).u (Or.inr (by decide))).u (Or.inr (by decide))).u (Or.inr (by decide))).u (Or.inl rfl))
theorem rSt1_Fs {R : RT} {a w : Int} : Fs R (rSt1 R a w) := rSt0_Fs.trans rStPut_Fs
theorem rStWho_in {R : RT} {a : Int} (hA : RA R) (hD : RAd R) (h : 0 ≤ a ∧ a < R 7 0) : 0 ≤ rStWho R a ∧ rStWho R a < R 3 0 := by
  have d := hD a.toNat (by omega)
  unfold rStWho
  split
  · omega
  · rename_i c
    have : ¬ R 20 a.toNat = -1 := fun z => c (by unfold rStOwn; rw [decide_eq_true z]; rfl)
    omega
theorem rSt1_34 {R : RT} {a w : Int} : rSt1 R a w 34 0 = if rStFd R a w = -1 then R 34 0 + 1 else R 34 0 := by
  show rSt0 R a w 34 0 = _
  unfold rSt0
  split
  · exact u2_s
  · rfl
theorem rStI_in {R : RT} {a w : Int} (hC : RC R) : 0 ≤ rStI R a w ∧ rStI R a w ≤ R 34 0 ∧ (¬ rStFd R a w = -1 → rStI R a w < R 34 0) := by
  have h := rStF_in R a (rStWho R a) (rStWch R a w) (R 34 0).toNat
  have hc := hC.1
  unfold rStI rStFd
  generalize rStF R a (rStWho R a) (rStWch R a w) (R 34 0).toNat = z at *
  split <;> omega
theorem rSt1_C {R : RT} {a w : Int} (hA : RA R) (hD : RAd R) (hS : RS R) (hC : RC R) (h : 0 ≤ a ∧ a < R 7 0) (h2 : ¬ R 19 a.toNat = -1) (h10 : R 34 0 ≤ 10) : RC (rSt1 R a w) := by
  have hc := hC.1
  have hi := rStI_in (a := a) (w := w) hC
  have hw := rStWho_in hA hD h
  have s := hS a.toNat (by omega)
  refine ⟨by rw [rSt1_34]; split <;> omega, ?_⟩
  intro j hj
  rw [rSt1_34] at hj
  have h3 : rSt1 R a w 3 0 = R 3 0 := by rw [rSt1_Fs 3 (by decide) (by decide)]
  rw [h3]
  by_cases c : j = (rStI R a w).toNat
  · subst c
    have e37 : rSt1 R a w 37 (rStI R a w).toNat = rStWho R a := by
      show rStPut _ _ _ _ _ _ _ _ = _
      unfold rStPut
      rw [u2_k (by decide), u2_k (by decide), u2_k (by decide), u2_k (by decide), u2_k (by decide), u2_k (by decide), u2_k (by decide), u2_s]
    have e39 : rSt1 R a w 39 (rStI R a w).toNat = R 21 a.toNat := by
      show rStPut _ _ _ _ _ _ _ _ = _
      unfold rStPut
      rw [u2_k (by decide), u2_k (by decide), u2_k (by decide), u2_k (by decide), u2_k (by decide), u2_s, rSt0_out (by decide)]
    have e35 : rSt1 R a w 35 (rStI R a w).toNat = R 18 a.toNat := by
      show rStPut _ _ _ _ _ _ _ _ = _
      unfold rStPut
      rw [u2_k (by decide), u2_k (by decide), u2_k (by decide), u2_k (by decide), u2_k (by decide), u2_k (by decide), u2_k (by decide), u2_k (by decide), u2_k (by decide), u2_s, rSt0_out (by decide)]
    have e36 : rSt1 R a w 36 (rStI R a w).toNat = R 19 a.toNat := by
      show rStPut _ _ _ _ _ _ _ _ = _
      unfold rStPut
      rw [u2_k (by decide), u2_k (by decide), u2_k (by decide), u2_k (by decide), u2_k (by decide), u2_k (by decide), u2_k (by decide), u2_k (by decide), u2_s, rSt0_out (by decide)]
    rw [e37, e39, e35, e36]
    omega
  · have e : ∀ f, 35 ≤ f → f ≤ 43 → rSt1 R a w f j = R f j := by
      intro f a1 a2
      show rStPut _ _ _ _ _ _ _ _ = _
      unfold rStPut
      rw [u2_k (by omega), u2_a c, u2_a c, u2_a c, u2_a c, u2_a c, u2_a c, u2_a c, u2_a c, u2_a c, rSt0_out (by omega)]
    rw [e 37 (by decide) (by decide), e 39 (by decide) (by decide), e 35 (by decide) (by decide), e 36 (by decide) (by decide)]
    have : (j : Int) < R 34 0 := by
      by_cases q : rStFd R a w = -1
      · rw [if_pos q] at hj
        have : rStI R a w = R 34 0 := by rw [rStI, if_pos q]
        omega
      · rw [if_neg q] at hj
        exact hj
    exact hC.2 j this
