/-! the frame of a hop, and the request before a request -/
def Fq (R S : RT) : Prop := ∀ f, (f < 32 ∨ 61 ≤ f) → f ≠ 1 → f ≠ 68 → f ≠ 69 → S f = R f
theorem Fq.Fs {R S : RT} (h : Fq R S) : Fs R S := fun f a b => h f (Or.inl (by omega)) b (by omega) (by omega)
theorem Fq.refl {R : RT} : Fq R R := fun _ _ _ _ _ => rfl
theorem Fq.trans {R S T : RT} (h : Fq R S) (k : Fq S T) : Fq R T := fun f a b c d => (k f a b c d).trans (h f a b c d)
theorem Fq.u {R S : RT} {k j : Nat} {v : Int} (h : Fq R S) (hk : k = 1 ∨ k = 68 ∨ k = 69 ∨ (32 ≤ k ∧ k ≤ 60)) : Fq R (u2 S k j v) := fun f a b c d => by
  rw [← h f a b c d]
  funext i
  exact u2_k (by omega)
theorem Fq.Q {R S : RT} (h : Fq R S) (x : RQ R) : RQ S := by
  unfold RQ
  rw [h 61 (by decide) (by decide) (by decide) (by decide), h 24 (by decide) (by decide) (by decide) (by decide), h 62 (by decide) (by decide) (by decide) (by decide), h 66 (by decide) (by decide) (by decide) (by decide)]
  exact x
theorem Fs.gate {R S : RT} (h : Fs R S) {a : Int} : rGate S a = rGate R a := by
  unfold rGate
  rw [h 10 (by decide) (by decide), h 8 (by decide) (by decide)]
theorem Fs.same {R S : RT} (h : Fs R S) {a b : Int} : rSame S a b = rSame R a b := by
  unfold rSame
  rw [h 8 (by decide) (by decide), h 9 (by decide) (by decide), h.gate, h.gate]
theorem Fs.place {R S : RT} (h : Fs R S) {a : Int} : rPlace S a = rPlace R a := by
  unfold rPlace
  rw [h 8 (by decide) (by decide), h 9 (by decide) (by decide), h.site]
theorem Fs.topF {R S : RT} (h : Fs R S) : ∀ (n : Nat) (k : Int), rTopF S n k = rTopF R n k := by
  intro n
  induction n with
  | zero => intro k; rfl
  | succ n ih => intro k; rw [rTopF, rTopF, h 26 (by decide) (by decide), ih]
theorem Fs.top {R S : RT} (h : Fs R S) {a : Int} : rTop S a = rTop R a := h.topF 8 a
theorem Fs.org {R S : RT} (h : Fs R S) {a : Int} : rOrg S a = rOrg R a := by
  unfold rOrg
  rw [h 8 (by decide) (by decide), h 9 (by decide) (by decide), h.gate]
theorem Fq.from {R S : RT} (h : Fq R S) : rFrom S = rFrom R := by
  unfold rFrom
  rw [h 25 (by decide) (by decide) (by decide) (by decide), h 61 (by decide) (by decide) (by decide) (by decide)]
theorem Fq.can {R S : RT} (h : Fq R S) {a : Int} : rCan S a = rCan R a := by
  unfold rCan
  rw [h 15 (by decide) (by decide) (by decide) (by decide), h 63 (by decide) (by decide) (by decide) (by decide)]
theorem Fq.lets {R S : RT} (h : Fq R S) {a : Int} : rLets S a = rLets R a := by
  unfold rLets
  rw [h 14 (by decide) (by decide) (by decide) (by decide), h 63 (by decide) (by decide) (by decide) (by decide), h 67 (by decide) (by decide) (by decide) (by decide), h.can, h.from, h.Fs.same]
theorem rFrom_in {R : RT} (hP : RP R) (hQ : RQ R) : 0 ≤ rFrom R ∧ rFrom R < R 7 0 := by
  have q := hQ.1
  exact (hP.2 (R 61 0).toNat (by omega)).1
theorem rOrg_in {R : RT} (hD : RAd R) (hH : RH R) {a : Int} (h : 0 ≤ a ∧ a < R 7 0) : 0 ≤ rOrg R a ∧ rOrg R a ≤ 1000000 := by
  have d := hD a.toNat (by omega)
  have g := rGate_in hD h.1 h.2
  have hh := hH.1
  unfold rOrg
  omega
theorem rTouch_out {R : RT} {i : Int} {f : Nat} (h : f ≠ 1 ∧ f ≠ 51 ∧ f ≠ 52) : rTouch R i f = R f := by
  funext j
  unfold rTouch
  rw [u2_k h.1, u2_k h.2.2, u2_k h.2.1]
theorem rAddLine_out {R : RT} {a cr w : Int} {f : Nat} (h : f < 44 ∨ 50 < f) : rAddLine R a cr w f = R f := by
  funext j
  unfold rAddLine
  rw [u2_k (by omega), u2_k (by omega), u2_k (by omega), u2_k (by omega), u2_k (by omega), u2_k (by omega), u2_k (by omega)]
theorem rCon_out {R : RT} {a cr w : Int} {f : Nat} (h : f < 44 ∨ 52 < f) (h1 : f ≠ 1) : rConR R a cr w f = R f := by
  have e : rCR1 R a cr w f = R f := funext fun j => rCR1_out (by omega) j
  unfold rConR
  split
  · rw [rTouch_out (by omega), rAddLine_out (by omega), e]
  · rw [rTouch_out (by omega), e]
theorem rCon_Fq {R : RT} {a cr w : Int} : Fq R (rConR R a cr w) := fun f h1 h2 _ _ => rCon_out (by omega) h2
theorem rCon_1 {R : RT} {a cr w : Int} : rConR R a cr w 1 0 = R 1 0 + 1 := by
  have e : rCR1 R a cr w 1 0 = R 1 0 := rCR1_out (by omega) 0
  unfold rConR
  split
  · unfold rTouch; rw [u2_s, rAddLine_out (by omega), e]
  · unfold rTouch; rw [u2_s, e]
theorem rCon_45 {R : RT} {a cr w : Int} : R 45 0 ≤ rConR R a cr w 45 0 ∧ rConR R a cr w 45 0 ≤ R 45 0 + 1 := by
  have e : rCR1 R a cr w 45 0 = R 45 0 := rCR1_out (by omega) 0
  unfold rConR
  split
  · rw [rTouch_out (by omega)]; unfold rAddLine; rw [u2_s, e]; omega
  · rw [rTouch_out (by omega), e]; omega
theorem rCloses_51 {R : RT} {i : Int} (h : ∀ j : Nat, 0 ≤ R 51 j) (j : Nat) : 0 ≤ rCloses R i 51 j := by
  have e : ∀ j, u2 R 44 0 (R 44 0 - 1) 51 j = R 51 j := fun j => u2_k (by decide)
  unfold rCloses rShift
  split
  · rw [e]; exact h _
  · rw [e]; exact h _
theorem rCon_Ln {R : RT} {a cr w : Int} (hL : RLn R) (ht : 0 ≤ R 0 0) : RLn (rConR R a cr w) := by
  have g := rCR1_44 hL a cr w
  have e0 : rCR1 R a cr w 0 0 = R 0 0 := rCR1_out (by omega) 0
  have g51 : ∀ j : Nat, 0 ≤ rCR1 R a cr w 51 j := by
    intro j
    unfold rCR1
    split
    · exact rCloses_51 hL.2 j
    · split
      · exact rCloses_51 hL.2 j
      · exact hL.2 j
  unfold rConR
  split
  · rename_i c
    have g5 := g.2.2 c
    constructor
    · rw [rTouch_out (by omega)]; unfold rAddLine; rw [u2_k (by decide), u2_s]; omega
    · intro j
      unfold rTouch
      rw [u2_k (by decide), u2_k (by decide)]
      unfold u2
      split
      · rw [show rAddLine (rCR1 R a cr w) a cr w 0 0 = R 0 0 by rw [rAddLine_out (by omega), e0]]; exact ht
      · rw [rAddLine_out (by omega)]; exact g51 j
  · constructor
    · rw [rTouch_out (by omega)]; omega
    · intro j
      unfold rTouch
      rw [u2_k (by decide), u2_k (by decide)]
      unfold u2
      split
      · rw [e0]; exact ht
      · exact g51 j
def rPfOrg (R : RT) : Int := if R 67 0 = 0 then rOrg R (rFrom R) else -1
def rPfNeeds (R : RT) : Int := (if R 66 0 = 2 then 1 else 0) + (if R 65 0 = 0 then 0 else 2)
def rPfF (R : RT) (a w : Int) : Nat → Int
  | 0 => -1
  | n + 1 => if R 55 n = rPfOrg R ∧ R 56 n = a ∧ R 57 n = R 63 0 ∧ R 58 n = w then (n : Int) else rPfF R a w n
theorem rPfF_in (R : RT) (a w : Int) : ∀ n, -1 ≤ rPfF R a w n ∧ rPfF R a w n < n := by
  intro n
  induction n with
  | zero => rw [rPfF]; omega
  | succ n ih =>
    rw [rPfF]
    split <;> omega
def rPfFd (R : RT) (a w : Int) : Int := rPfF R a w (R 54 0).toNat
def rPfHit (R : RT) (a w : Int) : Bool := decide (¬ rPfFd R a w = -1 ∧ R 0 0 < R 60 (rPfFd R a w).toNat ∧ iand (R 59 (rPfFd R a w).toNat) (rPfNeeds R) = rPfNeeds R)
def rPf1 (R : RT) (a w : Int) : RT := rConR (u2 R 53 0 (R 53 0 + 1)) a 0 w
def rPfOk (R : RT) (a : Int) : Bool := rLets R a && decide (iand (R 16 a.toNat) (rPfNeeds R) = rPfNeeds R)
def rPf2 (R : RT) (a w : Int) : RT := if rPfFd R a w = -1 then u2 (rPf1 R a w) 54 0 (rPf1 R a w 54 0 + 1) else rPf1 R a w
def rPfI (R : RT) (a w : Int) : Int := if rPfFd R a w = -1 then rPf1 R a w 54 0 else rPfFd R a w
def rPf3 (T : RT) (a w f org : Int) : RT := u2 (u2 (u2 (u2 (u2 (u2 T 55 f.toNat org) 56 f.toNat a) 57 f.toNat (T 63 0)) 58 f.toNat w) 59 f.toNat (T 16 a.toNat)) 60 f.toNat (T 0 0 + T 17 a.toNat)
def rPfPut (R : RT) (a w : Int) : RT := rPf3 (rPf2 R a w) a w (rPfI R a w) (rPfOrg R)
def rPfR (R : RT) (a w : Int) : RT := if rPfHit R a w = true then R else if rPfOk R a = true ∧ 0 < R 17 a.toNat then rPfPut R a w else rPf1 R a w
def rPf (R : RT) (a w : Int) : Bool := rPfHit R a w || rPfOk R a
theorem rPf1_Fq {R : RT} {a w : Int} : Fq R (rPf1 R a w) := (Fq.refl.u (by decide)).trans rCon_Fq
theorem rPf2_Fq {R : RT} {a w : Int} : Fq R (rPf2 R a w) := by
  unfold rPf2
  split
  · exact rPf1_Fq.u (by decide)
  · exact rPf1_Fq
theorem rPfPut_Fq {R : RT} {a w : Int} : Fq R (rPfPut R a w) :=
  rPf2_Fq.trans ((((((Fq.refl.u (by decide)).u (by decide)).u (by decide)).u (by decide)).u (by decide)).u (by decide))
theorem rPfR_Fq {R : RT} {a w : Int} : Fq R (rPfR R a w) := by
  unfold rPfR
  split
  · exact Fq.refl
  · split
    · exact rPfPut_Fq
    · exact rPf1_Fq
theorem rPf1_54 {R : RT} {a w : Int} : rPf1 R a w 54 0 = R 54 0 := by
  unfold rPf1
  rw [rCon_out (by decide) (by decide)]
  exact u2_k (by decide)
theorem rPf1_53 {R : RT} {a w : Int} : rPf1 R a w 53 0 = R 53 0 + 1 := by
  unfold rPf1
  rw [rCon_out (by decide) (by decide)]
  exact u2_s
theorem rPfI_in {R : RT} {a w : Int} (h : 0 ≤ R 54 0) : 0 ≤ rPfI R a w ∧ rPfI R a w ≤ R 54 0 := by
  have f := rPfF_in R a w (R 54 0).toNat
  unfold rPfI
  rw [rPf1_54]
  unfold rPfFd
  split <;> omega
