/-! the hops of a request: what they leave -/
theorem RX_mono {R : RT} {n m : Int} (x : RX R n) (h : n ≤ m) : RX R m := by
  obtain ⟨x1, x2, x3, x4, x5, x6, x7, x8, x9⟩ := x
  exact ⟨x1, x2, x3, x4, by omega, by omega, by omega, by omega, x9⟩
theorem rGoF_I {R : RT} (hH : RH R) (hA : RA R) (hD : RAd R) (hS : RS R) (h28 : 0 ≤ R 28 0 ∧ R 28 0 < 40) : ∀ (n : Nat) (k a : Int) (S : RT), rGI R S k a → k + n = 6 → 0 ≤ k →
    Fs R (rGoF n k a S).2 ∧ (rGoF n k a S).2 28 0 = R 28 0 ∧ RX (rGoF n k a S).2 (6 * R 28 0 + 6) ∧ (1 ≤ (rGoF n k a S).2 30 (R 28 0).toNat ∧ (rGoF n k a S).2 30 (R 28 0).toNat ≤ 6) ∧ (-1 ≤ (rGoF n k a S).1 ∧ (rGoF n k a S).1 ≤ 5) := by
  intro n
  induction n with
  | zero =>
    intro k a S h hk h0
    obtain ⟨g1, g2, g3, g4, g5, g6⟩ := h
    have ek : k = 6 := by omega
    subst ek
    exact ⟨g1, g2, g4, by show 1 ≤ S 30 (R 28 0).toNat ∧ S 30 (R 28 0).toNat ≤ 6; omega, by show (-1 : Int) ≤ 4; decide, by show (4 : Int) ≤ 5; decide⟩
  | succ n ih =>
    intro k a S h hk h0
    have hs := h
    obtain ⟨g1, g2, g3, g4, g5, g6⟩ := hs
    have e7 : S 7 0 = R 7 0 := congrFun (g1 7 (by decide) (by decide)) 0
    rw [rGoF]
    by_cases c1 : rMix S a = -1
    · rw [if_pos c1]
      obtain ⟨p1, p2, p3, p4, p5⟩ := rG1_I (b := a) h
      exact ⟨p1, p2, RX_mono p4 (by omega), by dsimp only; omega, by dsimp only; omega⟩
    · rw [if_neg c1]
      have hmx := rMix_in (a := a) (g1.A hA) (by rw [e7]; exact g6)
      obtain ⟨p1, p2, p3, p4, p5⟩ : Fs R (rG1 S a k) ∧ rG1 S a k 28 0 = R 28 0 ∧ RQ (rG1 S a k) ∧ RX (rG1 S a k) (6 * R 28 0 + k) ∧ rG1 S a k 30 (R 28 0).toNat = k + 1 := rG1_I h
      have h32 : rG1 S a k 32 (6 * S 28 0 + k).toNat = 0 := rRec_32
      have hdi : Fq (rG1 S a k) (rG2 S a k) ∧ RX (rG2 S a k) (6 * R 28 0 + k + 1) := rDoes_I (p1.H hH) (p1.A hA) (p1.Ad hD) (p1.S hS) p4 (by rw [p1 7 (by decide) (by decide)]; omega) h32
      have f1 : Fs R (rG2 S a k) := p1.trans hdi.1.Fs
      have e28 : rG2 S a k 28 0 = R 28 0 := by rw [hdi.1 28 (by decide) (by decide) (by decide) (by decide)]; exact p2
      have e30 : rG2 S a k 30 (R 28 0).toNat = k + 1 := by rw [hdi.1 30 (by decide) (by decide) (by decide) (by decide)]; exact p5
      have hdn := rDoes_in (R := rG1 S a k) (a := rMix S a)
      by_cases c2 : rDoes (rG1 S a k) (rMix S a) = -1
      · rw [if_neg (fun z => z c2)]
        by_cases c3 : k = 5
        · rw [if_pos c3]
          exact ⟨f1, e28, RX_mono hdi.2 (by omega), by dsimp only; omega, by dsimp only; omega⟩
        · rw [if_neg c3]
          have z := rDoes_12 c2
          rw [p1 12 (by decide) (by decide)] at z
          have d := hD (rMix S a).toNat (by omega)
          refine ih _ _ _ (rNxt_I f1 e28 (hdi.1.Q p3) (by rw [← Int.add_assoc]; exact hdi.2) e30 ?_) (by omega) (by omega)
          rw [f1 12 (by decide) (by decide)]
          omega
      · rw [if_pos c2]
        exact ⟨f1, e28, RX_mono hdi.2 (by omega), by dsimp only; omega, by dsimp only; omega⟩
theorem Fs.forF {R S : RT} (h : Fs R S) {w : Int} : ∀ (n : Nat) (k : Int), rForF S w n k = rForF R w n k := by
  intro n
  induction n with
  | zero => intro k; rfl
  | succ n ih => intro k; rw [rForF, rForF, h 25 (by decide) (by decide), h 26 (by decide) (by decide), h.place, ih]
theorem Fs.foreign {R S : RT} (h : Fs R S) {a : Int} : rFor S a = rFor R a := by
  unfold rFor
  rw [h.forF, h.place, h 25 (by decide) (by decide), h 26 (by decide) (by decide)]
def rRqIs (R : RT) (pg ad : Int) : Bool := rIsPage R pg && rIsAddress R ad
def rRqOk (me mo cr hd : Int) : Bool := rLies me 0 2 && (rLies mo 0 2 && (rLies cr 0 2 && (decide (mo = 1) || (decide (me < 2) && decide (hd = 0)))))
def rRqC (R : RT) (pg ad me mo cr hd : Int) : Int := if rRqIs R pg ad = false then 1 else if rRqOk me mo cr hd = false then 2 else if R 28 0 = 40 ∨ (mo = 2 ∧ ¬ R 26 pg.toNat = -1) then 3 else 0
def rRqAl (mo cr : Int) : Int := if cr = 2 ∨ mo = 2 then 1 else 0
def rRqAf (R : RT) (pg mo : Int) : Int := if ¬ mo = 2 ∧ rFor R pg = true then 1 else 0
def rRqN (R : RT) (pg ad me mo cr hd : Int) : RT := u2 (u2 (u2 (u2 (u2 (u2 (u2 (u2 R 71 0 (rRqC R pg ad me mo cr hd)) 61 0 pg) 62 0 mo) 66 0 me) 63 0 (rRqAl mo cr)) 64 0 (if cr = 1 then 1 else 0)) 65 0 hd) 67 0 0
def rRq0 (R : RT) (pg ad me mo cr hd : Int) : RT := u2 (u2 (u2 (rRqN R pg ad me mo cr hd) 68 0 (rRqAf R pg mo)) 69 0 0) 30 (R 28 0).toNat 0
def rRq (R : RT) (pg ad me mo cr hd : Int) : Int := if 0 < rRqC R pg ad me mo cr hd then 0 else rGoes2 (rRq0 R pg ad me mo cr hd) ad
def rRqR (R : RT) (pg ad me mo cr hd : Int) : RT := if 0 < rRqC R pg ad me mo cr hd then rF R (rRqC R pg ad me mo cr hd) else u2 (u2 (rGoesR (rRq0 R pg ad me mo cr hd) ad) 29 (R 28 0).toNat (rGoes2 (rRq0 R pg ad me mo cr hd) ad)) 28 0 (R 28 0 + 1)
theorem rRqC_0 {R : RT} {pg ad me mo cr hd : Int} (h : ¬ 0 < rRqC R pg ad me mo cr hd) : (0 ≤ pg ∧ pg ≤ R 24 0 - 1) ∧ (0 ≤ ad ∧ ad ≤ R 7 0 - 1) ∧ (0 ≤ me ∧ me ≤ 2) ∧ (0 ≤ mo ∧ mo ≤ 2) ∧ (0 ≤ cr ∧ cr ≤ 2) ∧ ¬ R 28 0 = 40 := by
  unfold rRqC at h
  by_cases c1 : rRqIs R pg ad = false
  · rw [if_pos c1] at h; exact absurd (by decide) h
  · rw [if_neg c1] at h
    by_cases c2 : rRqOk me mo cr hd = false
    · rw [if_pos c2] at h; exact absurd (by decide) h
    · rw [if_neg c2] at h
      by_cases c3 : R 28 0 = 40 ∨ (mo = 2 ∧ ¬ R 26 pg.toNat = -1)
      · rw [if_pos c3] at h; exact absurd (by decide) h
      · have d1 : rRqIs R pg ad = true := by simpa using c1
        have d2 : rRqOk me mo cr hd = true := by simpa using c2
        unfold rRqIs rIsPage rIsAddress at d1
        unfold rRqOk at d2
        simp only [Bool.and_eq_true] at d1 d2
        exact ⟨rLies_t.mp d1.1, rLies_t.mp d1.2, rLies_t.mp d2.1, rLies_t.mp d2.2.1, rLies_t.mp d2.2.2.1, fun z => c3 (Or.inl z)⟩
theorem rRqN_Fs {R : RT} {pg ad me mo cr hd : Int} : Fs R (rRqN R pg ad me mo cr hd) :=
  (((((((Fs.refl.u (Or.inr (by decide))).u (Or.inr (by decide))).u (Or.inr (by decide))).u (Or.inr (by decide))).u (Or.inr (by decide))).u (Or.inr (by decide))).u (Or.inr (by decide))).u (Or.inr (by decide))
theorem rRq0_Fs {R : RT} {pg ad me mo cr hd : Int} : Fs R (rRq0 R pg ad me mo cr hd) :=
  rRqN_Fs.trans (((Fs.refl.u (Or.inr (by decide))).u (Or.inr (by decide))).u (Or.inr (by decide)))
theorem rRq0_out {R : RT} {pg ad me mo cr hd : Int} {f : Nat} (h : f ≠ 30 ∧ (f < 61 ∨ 71 < f)) : rRq0 R pg ad me mo cr hd f = R f := by
  funext j
  unfold rRq0 rRqN
  rw [u2_k (by omega), u2_k (by omega), u2_k (by omega), u2_k (by omega), u2_k (by omega), u2_k (by omega), u2_k (by omega), u2_k (by omega), u2_k (by omega), u2_k (by omega), u2_k (by omega)]
theorem rRq0_I {R : RT} {pg ad me mo cr hd : Int} (hX : RX R (6 * R 28 0)) (h1 : 0 ≤ pg ∧ pg ≤ R 24 0 - 1) (h2 : 0 ≤ me ∧ me ≤ 2) (h3 : 0 ≤ mo ∧ mo ≤ 2) (h4 : 0 ≤ ad ∧ ad ≤ R 7 0 - 1) : rGI (rRq0 R pg ad me mo cr hd) (rRq0 R pg ad me mo cr hd) 0 ad := by
  have e28 : rRq0 R pg ad me mo cr hd 28 0 = R 28 0 := by rw [rRq0_out (by decide)]
  have e7 : rRq0 R pg ad me mo cr hd 7 0 = R 7 0 := by rw [rRq0_out (by decide)]
  refine ⟨Fs.refl, rfl, ?_, ?_, ?_, by rw [e7]; omega⟩
  · have e61 : rRq0 R pg ad me mo cr hd 61 0 = pg := rfl
    have e62 : rRq0 R pg ad me mo cr hd 62 0 = mo := rfl
    have e66 : rRq0 R pg ad me mo cr hd 66 0 = me := rfl
    unfold RQ
    rw [e61, e62, e66, rRq0_out (by decide)]
    omega
  · rw [e28, Int.add_zero]
    exact RX_of (fun f h => rRq0_out (by omega)) (fun j => by rw [rRq0_out (by decide)]; exact hX.2.2.2.2.2.2.2.2 j) hX
  · rw [e28]
    unfold rRq0
    rw [u2_s]
