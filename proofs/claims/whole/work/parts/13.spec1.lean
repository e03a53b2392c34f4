/-! what the reference's methods answer, over its rows: hosts -/
abbrev RT : Type := Nat → Nat → Int
def rLies (v a b : Int) : Bool := decide (a ≤ v ∧ v ≤ b)
def rIsHost (R : RT) (x : Int) : Bool := rLies x 0 (R 3 0 - 1)
def rIsAddress (R : RT) (x : Int) : Bool := rLies x 0 (R 7 0 - 1)
def rIsPage (R : RT) (x : Int) : Bool := rLies x 0 (R 24 0 - 1)
def rIsRequest (R : RT) (x : Int) : Bool := rLies x 0 (R 28 0 - 1)
theorem rLies_t {v a b : Int} : rLies v a b = true ↔ a ≤ v ∧ v ≤ b := decide_eq_true_iff
theorem rLies_f {v a b : Int} : rLies v a b = false ↔ ¬ (a ≤ v ∧ v ≤ b) := decide_eq_false_iff_not
/-- hosts: each lies under an earlier one, or at the top -/
def RH (R : RT) : Prop := (0 ≤ R 3 0 ∧ R 3 0 ≤ 16) ∧ ∀ j : Nat, (j : Int) < R 3 0 → -1 ≤ R 4 j ∧ R 4 j < j
def rUp (R : RT) : Nat → Int → Int
  | 0, b => b
  | n + 1, b => if R 4 b.toNat = -1 ∨ R 6 (R 4 b.toNat).toNat ≠ 0 then b else rUp R n (R 4 b.toNat)
def rSiteOf (R : RT) (its : Int) : Int := if R 6 its.toNat ≠ 0 then its else rUp R 16 its
theorem rUp_fuel {R : RT} (hH : RH R) : ∀ (n m : Nat) (b : Int), 0 ≤ b → b < R 3 0 → b < n → b < m → rUp R n b = rUp R m b := by
  intro n
  induction n with
  | zero => intro m b h0 _ h1; omega
  | succ n ih =>
    intro m b h0 hb h1 h2
    cases m with
    | zero => omega
    | succ m =>
      have hu := hH.2 b.toNat (by omega)
      rw [rUp, rUp]
      by_cases c : R 4 b.toNat = -1 ∨ R 6 (R 4 b.toNat).toNat ≠ 0
      · rw [if_pos c, if_pos c]
      · rw [if_neg c, if_neg c]
        have c1 : ¬ R 4 b.toNat = -1 := fun z => c (Or.inl z)
        exact ih m _ (by omega) (by omega) (by omega) (by omega)
theorem rUp_stop {R : RT} {b : Int} (h : R 4 b.toNat = -1 ∨ R 6 (R 4 b.toNat).toNat ≠ 0) : rUp R 16 b = b := by
  rw [rUp, if_pos h]
theorem rUp_step {R : RT} (hH : RH R) {b : Int} (h0 : 0 ≤ b) (hb : b < R 3 0) (h1 : ¬ R 4 b.toNat = -1) (h2 : R 6 (R 4 b.toNat).toNat = 0) : rUp R 16 b = rUp R 16 (R 4 b.toNat) := by
  have hh := hH.1
  have hu := hH.2 b.toNat (by omega)
  rw [rUp_fuel hH 16 17 b h0 hb (by omega) (by omega), rUp, if_neg (fun z => z.elim h1 (fun z => z h2))]
