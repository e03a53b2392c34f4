/-! a join that costs less; names for what is not null; codes -/
section XJK
variable {E : EV} {p : Program} {l : Launch} {e : Env} {R : Room} {s : State} {m : MethodId} {args : Array Value} {below : List Frame} {meth : Method} {c : Code} {cc : ByteArray} {nL mc ms : Nat} {own : String} {ret : Option FieldType} {Q : State → Prop} {G : GT} {kc ks pc : Nat} {L : List (Option Value)} {st st0 : List Value}
theorem x_joinK {α : Type} {kc1 ks1 : Nat} (q : Nat) (P : α → Prop) (G' : α → GT) (L' : α → List (Option Value)) (st' : α → List Value)
    (hJ : ∀ a, P a → XW E p l e R s m args below meth c nL mc ms Q (G' a) kc1 ks1 q (L' a) (st' a))
    (k : (∀ a, P a → XW E p l e R s m args below meth c nL mc ms Q (G' a) kc1 ks1 q (L' a) (st' a)) → XW E p l e R s m args below meth c nL mc ms Q G kc ks pc L st) : XW E p l e R s m args below meth c nL mc ms Q G kc ks pc L st := k hJ
end XJK
theorem vrf_s {G : GT} {b : Nat} {i : Int} (h : 0 ≤ i) : va_rf (rkOp G b i) = .ref (rkAt G b i) := by rw [rkOp_s h]; rfl
theorem rbf {b : Bool} (h : ¬ b = true) : b = false := by cases b; rfl; exact absurd rfl h
theorem rHIs_t {R : RT} {a : Int} : rHIs R a = true ↔ (a = -1 ∨ (0 ≤ a ∧ a ≤ R 3 0 - 1)) := by simp [rHIs, rIsHost, rLies]
theorem rLs_t {v a b : Int} : rLies v a b = true ↔ (a ≤ v ∧ v ≤ b) := by simp [rLies]
theorem rHC1 {R : RT} {a w : Int} (h : ¬ (a = -1 ∨ (0 ≤ a ∧ a ≤ R 3 0 - 1))) : rHCode R a w = 1 := if_pos (rbf (fun z => h (rHIs_t.mp z)))
theorem rHC2 {R : RT} {a w : Int} (h : a = -1 ∨ (0 ≤ a ∧ a ≤ R 3 0 - 1)) (h2 : ¬ (0 ≤ w ∧ w ≤ 701)) : rHCode R a w = 2 := by
  unfold rHCode
  rw [if_neg (by rw [rHIs_t.mpr h]; decide), if_pos (rbf (fun z => h2 (rLs_t.mp z)))]
theorem rHF {R : RT} {a w : Int} (h : a = -1 ∨ (0 ≤ a ∧ a ≤ R 3 0 - 1)) (h2 : 0 ≤ w ∧ w ≤ 701) : rHFound R a w = rHostOf R a w (R 3 0).toNat := by
  unfold rHFound
  rw [rHIs_t.mpr h, rLs_t.mpr h2]
  exact if_pos rfl
theorem rHC3 {R : RT} {a w : Int} (h : a = -1 ∨ (0 ≤ a ∧ a ≤ R 3 0 - 1)) (h2 : 0 ≤ w ∧ w ≤ 701) (h3 : rHostOf R a w (R 3 0).toNat = -1) (h4 : R 3 0 = 16 ∨ 3 < rDep R a) : rHCode R a w = 3 := by
  unfold rHCode
  rw [if_neg (by rw [rHIs_t.mpr h]; decide), if_neg (by rw [rLs_t.mpr h2]; decide), if_pos ⟨by rw [rHF h h2]; exact h3, h4⟩]
theorem rHC0 {R : RT} {a w : Int} (h : a = -1 ∨ (0 ≤ a ∧ a ≤ R 3 0 - 1)) (h2 : 0 ≤ w ∧ w ≤ 701) (h3 : ¬ rHostOf R a w (R 3 0).toNat = -1 ∨ ¬ (R 3 0 = 16 ∨ 3 < rDep R a)) : rHCode R a w = 0 := by
  unfold rHCode
  rw [if_neg (by rw [rHIs_t.mpr h]; decide), if_neg (by rw [rLs_t.mpr h2]; decide), if_neg (fun z => h3.elim (fun q => q (by rw [← rHF h h2]; exact z.1)) (fun q => q z.2))]
theorem rHV {R : RT} {a w : Int} (h : a = -1 ∨ (0 ≤ a ∧ a ≤ R 3 0 - 1)) (h2 : 0 ≤ w ∧ w ≤ 701) (h0 : rHCode R a w = 0) : rHost R a w = if rHostOf R a w (R 3 0).toNat = -1 then R 3 0 else rHostOf R a w (R 3 0).toNat := by
  unfold rHost
  rw [h0, if_neg (by decide), rHF h h2]
def rkNewH (G : GT) (B : Nat → Nat) (R : RT) (a w : Int) (q : Nat) : GT := sL (sI (sI (sP (sI (nO G q 8) 800 q (R 3 0)) 801 q (rkOp G (B 1) a)) 802 q w) 803 q (rDep R a)) (B 1) (gL G (B 1) ++ [q])
