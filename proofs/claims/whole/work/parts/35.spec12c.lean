/-! one hop -/
def rWhere (R : RT) (a : Int) : Int := if R 62 0 = 2 then rPlace R a else rPlace R (R 25 (rTop R (R 61 0)).toNat)
def rCross (R : RT) (a : Int) : Bool := !rSame R a (rFrom R) || decide (¬ R 67 0 = 0)
def rAfar (R : RT) (a : Int) : Int := if ¬ R 68 0 = 0 ∨ ¬ rPlace R a = rPlace R (rFrom R) then 1 else 0
def rWas (R : RT) (a : Int) : Int := if ¬ R 69 0 = 0 ∨ rCross R a = true then 1 else 0
def rD2 (R : RT) (a : Int) : RT := u2 (u2 R 68 0 (rAfar R a)) 69 0 (rWas R a)
def rNeed (R : RT) (a : Int) : Bool := decide (R 62 0 = 1) && (rCross R a && (decide (R 66 0 = 2) || decide (¬ R 65 0 = 0)))
def rD3 (R : RT) (a : Int) : RT := if rNeed R a = true then rPfR (rD2 R a) a (rWhere R a) else rD2 R a
def rStops (R : RT) (a : Int) : Bool := rNeed R a && !rPf (rD2 R a) a (rWhere R a)
def rUsed (R : RT) (a : Int) : Bool := decide (¬ R 63 0 = 0) || (decide (¬ R 64 0 = 0) && !rCross R a)
def rD4 (R : RT) (a : Int) : RT := rConR (rD3 R a) a (bI (rUsed R a)) (rWhere R a)
def rD5 (R : RT) (a q : Int) : RT := if rUsed R a = true then rSets (rSends (rD4 R a) a (rWhere R a) q) a (rWhere R a) else rD4 R a
def rDoes (R : RT) (a : Int) : Int := if rStops R a = true then 5 else if (decide (R 62 0 = 1) && (rCross R a && !rLets R a)) = true then 3 else if R 12 a.toNat = -1 then (if R 62 0 = 0 ∧ ¬ rWas R a = 0 then 1 else 0) else -1
def rDoesR (R : RT) (a q : Int) : RT := if rStops R a = true then rD3 R a else rD5 R a q
theorem rD2_Fq {R : RT} {a : Int} : Fq R (rD2 R a) := (Fq.refl.u (by decide)).u (by decide)
theorem rD3_Fq {R : RT} {a : Int} : Fq R (rD3 R a) := by
  unfold rD3
  split
  · exact rD2_Fq.trans rPfR_Fq
  · exact rD2_Fq
theorem rD4_Fq {R : RT} {a : Int} : Fq R (rD4 R a) := rD3_Fq.trans rCon_Fq
theorem rD3_I {R : RT} {a : Int} (hL : RLn R) (ht : 0 ≤ R 0 0) : (∀ f, (f < 44 ∨ 60 < f) → f ≠ 1 → f ≠ 68 → f ≠ 69 → rD3 R a f = R f) ∧ RLn (rD3 R a) ∧ (R 1 0 ≤ rD3 R a 1 0 ∧ rD3 R a 1 0 ≤ R 1 0 + 1) ∧ (R 45 0 ≤ rD3 R a 45 0 ∧ rD3 R a 45 0 ≤ R 45 0 + 1) ∧ (R 53 0 ≤ rD3 R a 53 0 ∧ rD3 R a 53 0 ≤ R 53 0 + 1) ∧ (R 54 0 ≤ rD3 R a 54 0 ∧ rD3 R a 54 0 ≤ R 54 0 + 1) := by
  have g : ∀ f, f ≠ 68 → f ≠ 69 → rD2 R a f = R f := fun f h1 h2 => funext fun j => by unfold rD2; rw [u2_k h2, u2_k h1]
  have gL : RLn (rD2 R a) := hL
  unfold rD3
  split
  · obtain ⟨i1, i2, i3, i4, i5, i6⟩ := rPfR_I (R := rD2 R a) (a := a) (w := rWhere R a) gL ht
    exact ⟨fun f h h1 h2 h3 => (i1 f h h1).trans (g f h2 h3), i2, i3, i4, i5, i6⟩
  · exact ⟨fun f h h1 h2 h3 => g f h2 h3, gL, ⟨Int.le_refl _, by show R 1 0 ≤ R 1 0 + 1; omega⟩, ⟨Int.le_refl _, by show R 45 0 ≤ R 45 0 + 1; omega⟩, ⟨Int.le_refl _, by show R 53 0 ≤ R 53 0 + 1; omega⟩, ⟨Int.le_refl _, by show R 54 0 ≤ R 54 0 + 1; omega⟩⟩
