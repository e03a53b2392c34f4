/-! what the reference's methods answer, over its rows: hosts -/
abbrev RT : Type := Nat → Nat → Int
def rLies (v a b : Int) : Bool := decide (a ≤ v ∧ v ≤ b)
def rIsHost (R : RT) (x : Int) : Bool := rLies x 0 (R 3 0 - 1)
def rIsAddress (R : RT) (x : Int) : Bool := rLies x 0 (R 7 0 - 1)
def rIsPage (R : RT) (x : Int) : Bool := rLies x 0 (R 24 0 - 1)
def rIsRequest (R : RT) (x : Int) : Bool := rLies x 0 (R 28 0 - 1)
theorem rLies_t {v a b : Int} : rLies v a b = true ↔ a ≤ v ∧ v ≤ b := decide_eq_true_iff
theorem rLies_f {v a b : Int} : rLies v a b = false ↔ ¬ (a ≤ v ∧ v ≤ b) := decide_eq_false_iff_not
/-- hosts: each lies under an earlier one, or at the top -/
def RH (R : RT) : Prop := (0 ≤ R 3 0 ∧ R 3 0 ≤ 16) ∧ ∀ j : Nat, (j : Int) < R 3 0 → -1 ≤ R 4 j ∧ R 4 j < j
def rUp (R : RT) : Nat → Int → Int
  | 0, b => b
  | n + 1, b => if R 4 b.toNat = -1 ∨ R 6 (R 4 b.toNat).toNat ≠ 0 then b else rUp R n (R 4 b.toNat)
def rSiteOf (R : RT) (its : Int) : Int := if R 6 its.toNat ≠ 0 then its else rUp R 16 its
theorem rUp_fuel {R : RT} (hH : RH R) : ∀ (n m : Nat) (b : Int), 0 ≤ b → b < R 3 0 → b < n → b < m → rUp R n b = rUp R m b := by
  intro n
  induction n with
  | zero => intro m b h0 _ h1; omega
  | succ n ih =>
    intro m b h0 hb h1 h2
    cases m with
    | zero => omega
    | succ m =>
      have hu := hH.2 b.toNat (by omega)
      rw [rUp, rUp]
      by_cases c : R 4 b.toNat = -1 ∨ R 6 (R 4 b.toNat).toNat ≠ 0
      · rw [if_pos c, if_pos c]
      · rw [if_neg c, if_neg c]
        have c1 : ¬ R 4 b.toNat = -1 := fun z => c (Or.inl z)
        exact ih m _ (by omega) (by omega) (by omega) (by omega)
theorem rUp_stop {R : RT} {b : Int} (h : R 4 b.toNat = -1 ∨ R 6 (R 4 b.toNat).toNat ≠ 0) : rUp R 16 b = b := by
  rw [rUp, if_pos h]
theorem rUp_step {R : RT} (hH : RH R) {b : Int} (h0 : 0 ≤ b) (hb : b < R 3 0) (h1 : ¬ R 4 b.toNat = -1) (h2 : R 6 (R 4 b.toNat).toNat = 0) : rUp R 16 b = rUp R 16 (R 4 b.toNat) := by
  have hh := hH.1
  have hu := hH.2 b.toNat (by omega)
  rw [rUp_fuel hH 16 17 b h0 hb (by omega) (by omega), rUp, if_neg (fun z => z.elim h1 (fun z => z h2))]
def rDepth (R : RT) : Nat → Int → Int
  | 0, _ => 0
  | n + 1, k => if k = -1 then 0 else 1 + rDepth R n (R 4 k.toNat)
def rDep (R : RT) (k : Int) : Int := rDepth R 17 k
theorem rDepth_fuel {R : RT} (hH : RH R) : ∀ (n m : Nat) (b : Int), -1 ≤ b → b < R 3 0 → b + 1 < n → b + 1 < m → rDepth R n b = rDepth R m b := by
  intro n
  induction n with
  | zero => intro m b h0 _ h1; omega
  | succ n ih =>
    intro m b h0 hb h1 h2
    cases m with
    | zero => omega
    | succ m =>
      rw [rDepth, rDepth]
      by_cases c : b = -1
      · rw [if_pos c, if_pos c]
      · rw [if_neg c, if_neg c]
        have hu := hH.2 b.toNat (by omega)
        rw [ih m _ (by omega) (by omega) (by omega) (by omega)]
theorem rDep_step {R : RT} (hH : RH R) {b : Int} (h0 : -1 ≤ b) (hb : b < R 3 0) (h1 : ¬ b = -1) : rDep R b = 1 + rDep R (R 4 b.toNat) := by
  have hh := hH.1
  have hu := hH.2 b.toNat (by omega)
  unfold rDep
  rw [rDepth_fuel hH 17 18 b h0 hb (by omega) (by omega), rDepth, if_neg h1]
theorem rDep_top {R : RT} : rDep R (-1) = 0 := by
  unfold rDep
  rw [rDepth, if_pos rfl]
theorem rDepth_in (R : RT) : ∀ (n : Nat) (b : Int), 0 ≤ rDepth R n b ∧ rDepth R n b ≤ n := by
  intro n
  induction n with
  | zero => intro b; rw [rDepth]; omega
  | succ n ih =>
    intro b
    rw [rDepth]
    have := ih (R 4 b.toNat)
    split <;> omega
theorem rDep_in (R : RT) (b : Int) : 0 ≤ rDep R b ∧ rDep R b ≤ 17 := rDepth_in R 17 b
def rHostOf (R : RT) (a w : Int) : Nat → Int
  | 0 => -1
  | n + 1 => if R 4 n = a ∧ R 5 n = w then (n : Int) else rHostOf R a w n
theorem rHostOf_in (R : RT) (a w : Int) : ∀ n, -1 ≤ rHostOf R a w n ∧ rHostOf R a w n < n := by
  intro n
  induction n with
  | zero => rw [rHostOf]; omega
  | succ n ih =>
    rw [rHostOf]
    split <;> omega
def rF (R : RT) (c : Int) : RT := u2 R 71 0 c
def rHIs (R : RT) (a : Int) : Bool := decide (a = -1) || rIsHost R a
def rHFound (R : RT) (a w : Int) : Int := if (rHIs R a && rLies w 0 701) = true then rHostOf R a w (R 3 0).toNat else -1
def rHCode (R : RT) (a w : Int) : Int := if rHIs R a = false then 1 else if rLies w 0 701 = false then 2 else if rHFound R a w = -1 ∧ (R 3 0 = 16 ∨ 3 < rDep R a) then 3 else 0
def rHost (R : RT) (a w : Int) : Int := if 0 < rHCode R a w then 0 else if rHFound R a w = -1 then R 3 0 else rHFound R a w
def rHostR (R : RT) (a w : Int) : RT := if 0 < rHCode R a w then rF R (rHCode R a w) else if rHFound R a w = -1 then u2 (u2 (u2 (rF R (rHCode R a w)) 4 (R 3 0).toNat a) 5 (R 3 0).toNat w) 3 0 (R 3 0 + 1) else rF R (rHCode R a w)
def rTogC (R : RT) (x : Int) : Int := if rIsHost R x = true then 0 else 1
def rTog (R : RT) (x : Int) : Int := if 0 < rTogC R x then 0 else if R 6 x.toNat = 0 then 1 else 0
def rTogR (R : RT) (x : Int) : RT := if 0 < rTogC R x then rF R (rTogC R x) else u2 (rF R (rTogC R x)) 6 x.toNat (if R 6 x.toNat = 0 then 1 else 0)
def rSite (R : RT) (x : Int) : Int := if 0 < rTogC R x then 0 else rSiteOf R x
theorem rUp_F {R : RT} {c : Int} : ∀ (n : Nat) (b : Int), rUp (u2 R 71 0 c) n b = rUp R n b := by
  intro n
  induction n with
  | zero => intro b; rfl
  | succ n ih =>
    intro b
    rw [rUp, rUp, ih]
    rfl
theorem rSiteOf_F {R : RT} {c x : Int} : rSiteOf (u2 R 71 0 c) x = rSiteOf R x := by
  unfold rSiteOf
  rw [rUp_F]
  rfl
/-- a host is another one, or lies under it -/
def rInF (R : RT) : Nat → Int → Int → Bool
  | 0, _, _ => false
  | n + 1, k, q => if k = -1 ∨ k = q then decide (k = q) else rInF R n (R 4 k.toNat) q
def rIn (R : RT) (k q : Int) : Bool := rInF R 17 k q
theorem rInF_fuel {R : RT} (hH : RH R) (q : Int) : ∀ (n m : Nat) (b : Int), -1 ≤ b → b < R 3 0 → b + 1 < n → b + 1 < m → rInF R n b q = rInF R m b q := by
  intro n
  induction n with
  | zero => intro m b h0 _ h1; omega
  | succ n ih =>
    intro m b h0 hb h1 h2
    cases m with
    | zero => omega
    | succ m =>
      rw [rInF, rInF]
      by_cases c : b = -1 ∨ b = q
      · rw [if_pos c, if_pos c]
      · rw [if_neg c, if_neg c]
        have c1 : ¬ b = -1 := fun z => c (Or.inl z)
        have hu := hH.2 b.toNat (by omega)
        rw [ih m _ (by omega) (by omega) (by omega) (by omega)]
theorem rIn_step {R : RT} (hH : RH R) {b q : Int} (h0 : -1 ≤ b) (hb : b < R 3 0) (h1 : ¬ b = -1) (h2 : ¬ b = q) : rIn R b q = rIn R (R 4 b.toNat) q := by
  have hh := hH.1
  have hu := hH.2 b.toNat (by omega)
  unfold rIn
  rw [rInF_fuel hH q 17 18 b h0 hb (by omega) (by omega), rInF, if_neg (fun z => z.elim h1 h2)]
theorem rIn_stop {R : RT} {b q : Int} (h : b = -1 ∨ b = q) : rIn R b q = decide (b = q) := by
  unfold rIn
  rw [rInF, if_pos h]
def rIsPath (x : Int) : Bool := decide (x = 0) || (rLies x 1 999 && decide (0 < x % 10) && (decide (x < 10) || decide (0 < x / 10 % 10)))
theorem rHCode_in (R : RT) (a w : Int) : 0 ≤ rHCode R a w ∧ rHCode R a w ≤ 3 := by
  unfold rHCode
  split
  · omega
  · split
    · omega
    · split <;> omega
theorem rHFound_in {R : RT} (hH : RH R) (a w : Int) : -1 ≤ rHFound R a w ∧ rHFound R a w ≤ 15 := by
  have h := rHostOf_in R a w (R 3 0).toNat
  have hh := hH.1
  unfold rHFound
  split <;> omega
theorem rHIs_in {R : RT} {a : Int} (hH : RH R) (h : rHIs R a = true) : -1 ≤ a ∧ a < R 3 0 := by
  have hh := hH.1
  unfold rHIs rIsHost at h
  rw [Bool.or_eq_true, decide_eq_true_iff, rLies_t] at h
  omega
theorem rHCode_ok {R : RT} {a w : Int} (h : ¬ 0 < rHCode R a w) : rHIs R a = true ∧ rLies w 0 701 = true ∧ (rHFound R a w = -1 → R 3 0 ≠ 16 ∧ rDep R a ≤ 3) := by
  unfold rHCode at h
  split at h
  · omega
  · rename_i c1
    split at h
    · omega
    · rename_i c2
      split at h
      · omega
      · rename_i c3
        refine ⟨by simpa using c1, by simpa using c2, fun z => ⟨fun y => c3 ⟨z, Or.inl y⟩, ?_⟩⟩
        by_cases q : 3 < rDep R a
        · exact absurd ⟨z, Or.inr q⟩ c3
        · omega

theorem rIsPath_lt {x : Int} : True := trivial
/-- addresses -/
def rFind (R : RT) (a b c d : Int) : Nat → Int
  | 0 => -1
  | n + 1 => if R 8 n = a ∧ R 9 n = b ∧ R 10 n = c ∧ R 11 n = d then (n : Int) else rFind R a b c d n
def rFnd (R : RT) (a b c d : Int) : Int := rFind R a b c d (R 7 0).toNat
theorem rFind_in (R : RT) (a b c d : Int) : ∀ n, -1 ≤ rFind R a b c d n ∧ rFind R a b c d n < n := by
  intro n
  induction n with
  | zero => rw [rFind]; omega
  | succ n ih =>
    rw [rFind]
    split <;> omega
def RA (R : RT) : Prop := 0 ≤ R 7 0 ∧ R 7 0 ≤ 24
def rTells (R : RT) (a b c d : Int) : Int := if rFnd R a b c d = -1 ∧ R 7 0 < 24 then R 7 0 else rFnd R a b c d
def rTellsR (R : RT) (a b c d : Int) : RT := if rFnd R a b c d = -1 ∧ R 7 0 < 24 then
    u2 (u2 (u2 (u2 (u2 (u2 (u2 (u2 R 8 (R 7 0).toNat a) 9 (R 7 0).toNat b) 10 (R 7 0).toNat c) 11 (R 7 0).toNat d) 12 (R 7 0).toNat (-1)) 14 (R 7 0).toNat (-1)) 19 (R 7 0).toNat (-1)) 7 0 (R 7 0 + 1) else R
theorem rFnd_in {R : RT} (h : RA R) (a b c d : Int) : -1 ≤ rFnd R a b c d ∧ rFnd R a b c d < 24 := by
  have := rFind_in R a b c d (R 7 0).toNat
  have h1 := h.1
  have h2 := h.2
  unfold rFnd
  omega
theorem rTells_in {R : RT} (h : RA R) (a b c d : Int) : -1 ≤ rTells R a b c d ∧ rTells R a b c d < 24 := by
  have := rFnd_in h a b c d
  have h1 := h.1
  unfold rTells
  split <;> omega
def rAOk (how gate way : Int) : Bool := rLies how 0 1 && rLies gate 0 9999 && rIsPath way
def rAFound (R : RT) (a b c d : Int) : Int := if (rIsHost R b && rAOk a c d) = true then rTells R a b c d else -1
def rAMid (R : RT) (a b c d : Int) : RT := if (rIsHost R b && rAOk a c d) = true then rTellsR R a b c d else R
def rACode (R : RT) (a b c d : Int) : Int := if rIsHost R b = false then 1 else if rAOk a c d = false then 2 else if rAFound R a b c d = -1 then 3 else 0
def rAddr (R : RT) (a b c d : Int) : Int := if 0 < rACode R a b c d then 0 else rAFound R a b c d
