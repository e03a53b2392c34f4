/-! the hops of a request -/
def rHow (R : RT) (a : Int) : Int := if (R 13 a.toNat < 2 ∧ R 66 0 = 1) ∨ (R 13 a.toNat = 2 ∧ 0 < R 66 0) then 0 else R 66 0
def rTnt (R : RT) (a : Int) : Int := if ¬ R 67 0 = 0 ∨ (R 62 0 = 1 ∧ rCross R a = true ∧ rSame R (R 12 a.toNat) a = false) then 1 else 0
def rNxt (R : RT) (a : Int) : RT := u2 (u2 R 66 0 (rHow R a)) 67 0 (rTnt R a)
def rG1 (R : RT) (a k : Int) : RT := rRec R (rMix R a) (6 * R 28 0 + k)
def rG2 (R : RT) (a k : Int) : RT := rDoesR (rG1 R a k) (rMix R a) (6 * R 28 0 + k)
def rGoF : Nat → Int → Int → RT → Int × RT
  | 0, _, _, R => (4, R)
  | n + 1, k, a, R => if rMix R a = -1 then (2, rRec R a (6 * R 28 0 + k)) else if ¬ rDoes (rG1 R a k) (rMix R a) = -1 then (rDoes (rG1 R a k) (rMix R a), rG2 R a k) else if k = 5 then (4, rG2 R a k) else rGoF n (k + 1) (rG2 R a k 12 (rMix R a).toNat) (rNxt (rG2 R a k) (rMix R a))
def rGoes2 (R : RT) (a : Int) : Int := (rGoF 6 0 a R).1
def rGoesR (R : RT) (a : Int) : RT := (rGoF 6 0 a R).2
theorem rMix_in {R : RT} {a : Int} (hA : RA R) (h : 0 ≤ a ∧ a < R 7 0) : -1 ≤ rMix R a ∧ rMix R a < R 7 0 := by
  have hh := hA.1
  have f := rFind_in R 1 (R 9 a.toNat) (R 10 a.toNat) (R 11 a.toNat) (R 7 0).toNat
  unfold rMix rFnd
  (repeat (first | omega | split))
theorem rRec_Fs {R : RT} {a q : Int} : Fs R (rRec R a q) := ((Fs.refl.u (Or.inr (by decide))).u (Or.inr (by decide))).u (Or.inr (by decide))
theorem rRec_out {R : RT} {a q : Int} {f : Nat} (h : f ≠ 30 ∧ f ≠ 31 ∧ f ≠ 32) : rRec R a q f = R f := by
  funext j
  unfold rRec
  rw [u2_k h.1, u2_k h.2.2, u2_k h.2.1]
theorem rRec_32 {R : RT} {a q : Int} : rRec R a q 32 q.toNat = 0 := by
  unfold rRec
  rw [u2_k (by decide), u2_s]
theorem rRec_30 {R : RT} {a q : Int} : rRec R a q 30 (R 28 0).toNat = R 30 (R 28 0).toNat + 1 := by
  unfold rRec
  rw [u2_s]
theorem RX_of {R S : RT} {n : Int} (h : ∀ f, f = 0 ∨ f = 1 ∨ f = 3 ∨ (34 ≤ f ∧ f ≤ 54) → S f = R f) (h32 : ∀ j, 0 ≤ S 32 j ∧ S 32 j ≤ 12) (x : RX R n) : RX S n := by
  obtain ⟨x1, x2, x3, x4, x5, x6, x7, x8, x9⟩ := x
  refine ⟨rC_of (h 3 (by decide)) (h 34 (by decide)) (h 35 (by decide)) (h 36 (by decide)) (h 37 (by decide)) (h 39 (by decide)) x1, ?_, by rw [h 34 (by decide)]; exact x3, by rw [h 0 (by decide)]; exact x4, by rw [h 1 (by decide)]; exact x5, by rw [h 45 (by decide)]; exact x6, by rw [h 53 (by decide)]; exact x7, by rw [h 54 (by decide)]; exact x8, h32⟩
  unfold RLn
  rw [h 44 (by decide), h 51 (by decide)]
  exact x2
theorem rRec_X {R : RT} {a q n : Int} (x : RX R n) : RX (rRec R a q) n := by
  refine RX_of (fun f h => rRec_out (by omega)) (fun j => ?_) x
  have x9 := x.2.2.2.2.2.2.2.2
  unfold rRec
  rw [u2_k (by decide)]
  by_cases c : j = q.toNat
  · subst c; rw [u2_s]; omega
  · rw [u2_a c, u2_k (by decide)]; exact x9 j
def rGI (R S : RT) (k a : Int) : Prop := Fs R S ∧ S 28 0 = R 28 0 ∧ RQ S ∧ RX S (6 * R 28 0 + k) ∧ S 30 (R 28 0).toNat = k ∧ (0 ≤ a ∧ a < R 7 0)
theorem rG1_I {R S : RT} {k a b : Int} (h : rGI R S k a) : Fs R (rRec S b (6 * S 28 0 + k)) ∧ rRec S b (6 * S 28 0 + k) 28 0 = R 28 0 ∧ RQ (rRec S b (6 * S 28 0 + k)) ∧ RX (rRec S b (6 * S 28 0 + k)) (6 * R 28 0 + k) ∧ rRec S b (6 * S 28 0 + k) 30 (R 28 0).toNat = k + 1 := by
  obtain ⟨a1, a2, a3, a4, a5, a6⟩ := h
  refine ⟨a1.trans rRec_Fs, by rw [rRec_out (by decide)]; exact a2, ?_, rRec_X a4, ?_⟩
  · unfold RQ
    rw [rRec_out (by decide), rRec_out (by decide), rRec_out (by decide), rRec_out (by decide)]
    exact a3
  · have := rRec_30 (R := S) (a := b) (q := 6 * S 28 0 + k)
    rw [a2] at this ⊢
    rw [this, a5]
theorem rNxt_I {R S : RT} {k a b : Int} (hF : Fs R S) (h28 : S 28 0 = R 28 0) (hQ : RQ S) (hX : RX S (6 * R 28 0 + k)) (h30 : S 30 (R 28 0).toNat = k) (hb : 0 ≤ b ∧ b < R 7 0) : rGI R (rNxt S a) k b := by
  have o : ∀ f, f ≠ 66 → f ≠ 67 → rNxt S a f = S f := fun f h1 h2 => funext fun j => by unfold rNxt; rw [u2_k h2, u2_k h1]
  have hw : rHow S a = 0 ∨ rHow S a = S 66 0 := by unfold rHow; split <;> simp
  have x9 := hX.2.2.2.2.2.2.2.2
  refine ⟨fun f h1 h2 => (o f (by omega) (by omega)).trans (hF f h1 h2), by rw [o 28 (by decide) (by decide)]; exact h28, ?_, RX_of (fun f h => o f (by omega) (by omega)) (fun j => by rw [o 32 (by decide) (by decide)]; exact x9 j) hX, by rw [o 30 (by decide) (by decide)]; exact h30, hb⟩
  have e66 : rNxt S a 66 0 = rHow S a := by unfold rNxt; rw [u2_k (by decide), u2_s]
  obtain ⟨q1, q2, q3⟩ := hQ
  unfold RQ
  rw [o 61 (by decide) (by decide), o 24 (by decide) (by decide), o 62 (by decide) (by decide), e66]
  exact ⟨q1, q2, by omega⟩
theorem rDoes_in {R : RT} {a : Int} : -1 ≤ rDoes R a ∧ rDoes R a ≤ 5 := by unfold rDoes; (repeat (first | omega | split))
theorem rDoes_12 {R : RT} {a : Int} (h : rDoes R a = -1) : ¬ R 12 a.toNat = -1 := by
  intro c
  unfold rDoes at h
  rw [if_pos c] at h
  revert h
  (repeat (first | omega | split))
theorem rHow_in {R : RT} {a : Int} (h : InR (R 66 0)) : InR (rHow R a) := by
  unfold rHow
  split
  · exact ⟨by decide, by decide⟩
  · exact h
