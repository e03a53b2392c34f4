/-! the reference: what passes, texts -/
def lessB : List (Option Value) → List (Option Value) → Prop
  | [], _ => True
  | none :: A, _ :: B => lessB A B
  | some v :: A, some w :: B => v = w ∧ lessB A B
  | _ :: _, _ => False
theorem lessB_get : ∀ {A B : List (Option Value)}, lessB A B → ∀ (i : Nat) (v : Value), A[i]? = some (some v) → B[i]? = some (some v)
  | [], _, _, i, v, h => by simp at h
  | none :: A, _ :: B, hl, i, v, h => by
    cases i with
    | zero => simp at h
    | succ i => simpa using lessB_get (A := A) (B := B) hl i v (by simpa using h)
  | some w :: A, some u :: B, hl, i, v, h => by
    cases i with
    | zero =>
      simp at h
      subst h
      obtain ⟨rfl, -⟩ := hl
      rfl
    | succ i => simpa using lessB_get (A := A) (B := B) hl.2 i v (by simpa using h)
section XT3
variable {E : EV} {p : Program} {l : Launch} {e : Env} {R : Room} {s : State} {m : MethodId} {args : Array Value} {below : List Frame} {meth : Method} {c : Code} {nL mc ms : Nat} {Q : State → Prop} {G : GT} {kc ks pc : Nat} {L : List (Option Value)} {st : List Value}
/-- less is known of the locals -/
theorem x_less {L' : List (Option Value)} (h : lessB L' L) (k : XW E p l e R s m args below meth c nL mc ms Q G kc ks pc L' st) : XW E p l e R s m args below meth c nL mc ms Q G kc ks pc L st :=
  fun H locs cells slots ls a1 a2 a3 a4 a5 => k H locs cells slots ls a1 a2 ⟨a3.1, a3.2.1, fun i v hi => a3.2.2 i v (lessB_get h i v hi)⟩ a4 a5
end XT3
def rPassC (t : Int) : Int := if rLies t 1 1000 = true then 0 else 1
def rPassF : Nat → RT → RT
  | 0, S => S
  | n + 1, S => rPassF n (if ¬ S 42 n = -1 ∧ S 42 n ≤ S 0 0 then rDrops S n else S)
def rPassR (R : RT) (t : Int) : RT := if 0 < rPassC t then rF R (rPassC t) else rPassF (R 34 0).toNat (u2 (rF R (rPassC t)) 0 0 (R 0 0 + t))
def rPass (R : RT) (t : Int) : Int := if 0 < rPassC t then 0 else R 0 0 + t
theorem rDrops_34 {R : RT} {i : Int} : rDrops R i 34 0 = R 34 0 - 1 := by
  unfold rDrops
  rw [rShift_out (by omega), u2_s]
theorem rPassF_tick : ∀ (n : Nat) (S : RT), rPassF n S 0 0 = S 0 0 := by
  intro n
  induction n with
  | zero => intro S; rfl
  | succ n ih =>
    intro S
    rw [rPassF, ih]
    split
    · exact rDrops_out (Or.inl (by omega)) 0
    · rfl
def rDig (v : Int) : Int := if 999 < v then 4 else if 99 < v then 3 else if 9 < v then 2 else 1
theorem rDig_in (v : Int) : 1 ≤ rDig v ∧ rDig v ≤ 4 := by unfold rDig; (repeat (first | omega | split))
def rBeh2 (R : RT) (a k : Int) : Int := if rMany (R 11 a.toNat) = 0 then (if k = 0 then 47 else 32) else if 2 * rMany (R 11 a.toNat) ≤ k then 32 else if k % 2 = 0 then 47 else 48 + rDivs (rMany (R 11 a.toNat) - (k / 2 + 1)).toNat (R 11 a.toNat) % 10
def rBeh (R : RT) (a k : Int) : Int := if 0 < R 10 a.toNat then (if k = 0 then 58 else if k ≤ rDig (R 10 a.toNat) then 48 + rDivs (rDig (R 10 a.toNat) - k).toNat (R 10 a.toNat) % 10 else rBeh2 R a (k - (rDig (R 10 a.toNat) + 1))) else rBeh2 R a k
def RHl (R : RT) : Prop := ∀ j : Nat, (j : Int) < R 3 0 → 0 ≤ R 5 j ∧ R 5 j ≤ 701
def rSignF (R : RT) (a : Int) : Nat → Int → Int → Int
  | 0, _, _ => 0
  | n + 1, q, k => if ¬ q = -1 ∧ rLetters (R 5 q.toNat) ≤ k then
      (if R 4 q.toNat = -1 then rSignF R a n (R 4 q.toNat) (k - rLetters (R 5 q.toNat)) else if k - rLetters (R 5 q.toNat) = 0 then 46 else rSignF R a n (R 4 q.toNat) (k - rLetters (R 5 q.toNat) - 1))
    else if q = -1 then rBeh R a k else rLetter (R 5 q.toNat) k
def rSign (R : RT) (a k : Int) : Int := if k < 0 then 32 else if k < 4 then (if k = 0 then 104 else if k = 3 then 112 else 116) else if k < (if R 8 a.toNat = 1 then 5 else 4) then 115
  else if k < (if R 8 a.toNat = 1 then 5 else 4) + 3 then (if k = (if R 8 a.toNat = 1 then 5 else 4) then 58 else 47) else rSignF R a 17 (R 9 a.toNat) (k - (if R 8 a.toNat = 1 then 5 else 4) - 3)
theorem rSignF_fuel {R : RT} (hH : RH R) (a : Int) : ∀ (n m : Nat) (q k : Int), -1 ≤ q → q < R 3 0 → q + 1 < n → q + 1 < m → rSignF R a n q k = rSignF R a m q k := by
  intro n
  induction n with
  | zero => intro m b k h0 _ h1; omega
  | succ n ih =>
    intro m b k h0 hb h1 h2
    cases m with
    | zero => omega
    | succ m =>
      rw [rSignF, rSignF]
      by_cases c : ¬ b = -1 ∧ rLetters (R 5 b.toNat) ≤ k
      · have hu := hH.2 b.toNat (by omega)
        rw [if_pos c, if_pos c, ih m _ _ (by omega) (by omega) (by omega) (by omega), ih m _ _ (by omega) (by omega) (by omega) (by omega)]
      · rw [if_neg c, if_neg c]
theorem rSignF_step {R : RT} (hH : RH R) {a q k : Int} (h0 : -1 ≤ q) (hb : q < R 3 0) (c : ¬ q = -1 ∧ rLetters (R 5 q.toNat) ≤ k) : rSignF R a 17 q k = (if R 4 q.toNat = -1 then rSignF R a 17 (R 4 q.toNat) (k - rLetters (R 5 q.toNat)) else if k - rLetters (R 5 q.toNat) = 0 then 46 else rSignF R a 17 (R 4 q.toNat) (k - rLetters (R 5 q.toNat) - 1)) := by
  have hh := hH.1
  rw [rSignF_fuel hH a 17 18 q k h0 hb (by omega) (by omega), rSignF, if_pos c]
theorem rSignF_stop {R : RT} {a q k : Int} (c : ¬ (¬ q = -1 ∧ rLetters (R 5 q.toNat) ≤ k)) : rSignF R a 17 q k = if q = -1 then rBeh R a k else rLetter (R 5 q.toNat) k := by
  rw [rSignF, if_neg c]
theorem rDivs_in : ∀ (n : Nat) (x : Int), 0 ≤ x → 0 ≤ rDivs n x ∧ rDivs n x ≤ x := by
  intro n
  induction n with
  | zero => intro x h; rw [rDivs]; omega
  | succ n ih =>
    intro x h
    have := ih (x / 10) (by omega)
    rw [rDivs]
    omega
theorem rBeh2_in {R : RT} {a k : Int} : 0 ≤ rBeh2 R a k ∧ rBeh2 R a k < 65536 := by unfold rBeh2; (repeat (first | omega | split))
theorem rBeh_in {R : RT} {a k : Int} : 0 ≤ rBeh R a k ∧ rBeh R a k < 65536 := by
  have := @rBeh2_in R a k
  have := @rBeh2_in R a (k - (rDig (R 10 a.toNat) + 1))
  unfold rBeh; (repeat (first | omega | split))
theorem rLetter_in {w k : Int} (h : 0 ≤ w ∧ w ≤ 701) : 0 ≤ rLetter w k ∧ rLetter w k < 65536 := by unfold rLetter; (repeat (first | omega | split))
theorem rSignF_in {R : RT} (hH : RH R) (hl : RHl R) (a : Int) : ∀ (n : Nat) (q k : Int), -1 ≤ q → q < R 3 0 → 0 ≤ rSignF R a n q k ∧ rSignF R a n q k < 65536 := by
  intro n
  induction n with
  | zero => intro q k _ _; rw [rSignF]; omega
  | succ n ih =>
    intro q k h0 h1
    rw [rSignF]
    by_cases c : ¬ q = -1 ∧ rLetters (R 5 q.toNat) ≤ k
    · have hu := hH.2 q.toNat (by omega)
      have i1 := ih (R 4 q.toNat) (k - rLetters (R 5 q.toNat)) (by omega) (by omega)
      have i2 := ih (R 4 q.toNat) (k - rLetters (R 5 q.toNat) - 1) (by omega) (by omega)
      rw [if_pos c]
      (repeat (first | omega | split))
    · rw [if_neg c]
      split
      · exact rBeh_in
      · exact rLetter_in (hl q.toNat (by omega))
theorem rSign_in {R : RT} (hH : RH R) (hl : RHl R) {a k : Int} (hq : 0 ≤ R 9 a.toNat ∧ R 9 a.toNat < R 3 0) : 0 ≤ rSign R a k ∧ rSign R a k < 65536 := by
  have i1 := rSignF_in hH hl a 17 (R 9 a.toNat) (k - (if R 8 a.toNat = 1 then 5 else 4) - 3) (by omega) hq.2
  unfold rSign
  generalize rSignF R a 17 (R 9 a.toNat) (k - (if R 8 a.toNat = 1 then 5 else 4) - 3) = z at i1 ⊢
  (repeat (first | omega | split))
def rTxC (R : RT) (a k : Int) : Int := if (rIsAddress R a && decide (¬ rSign R a k = 32)) = true then 0 else 1
def rTx (R : RT) (a k : Int) : Int := if 0 < rTxC R a k then 32 else rSign R a k
theorem rBeh2_F {R : RT} {c a k : Int} : rBeh2 (u2 R 71 0 c) a k = rBeh2 R a k := rfl
theorem rBeh_F {R : RT} {c a k : Int} : rBeh (u2 R 71 0 c) a k = rBeh R a k := rfl
theorem rSignF_F {R : RT} {c a : Int} : ∀ (n : Nat) (q k : Int), rSignF (u2 R 71 0 c) a n q k = rSignF R a n q k := by
  intro n
  induction n with
  | zero => intro q k; rfl
  | succ n ih =>
    intro q k
    rw [rSignF, rSignF, ih, ih]
    rfl
theorem rSign_F {R : RT} {c a k : Int} : rSign (u2 R 71 0 c) a k = rSign R a k := by
  unfold rSign
  rw [rSignF_F]
  rfl
