/-! what the reference's methods answer: refusals, what is sent, what was done -/
section XT2
variable {E : EV} {p : Program} {l : Launch} {e : Env} {R : Room} {s : State} {m : MethodId} {args : Array Value} {below : List Frame} {meth : Method} {c : Code} {cc : ByteArray} {nL mc ms : Nat} {own : String} {ret : Option FieldType} {Q : State → Prop} {G : GT} {kc ks pc : Nat} {L : List (Option Value)} {st : List Value}
theorem x_ldcw (n : Nat) (C : CX E p R s m args meth c cc nL own mc ms ret) {i : Nat} {v : Int} (hc : (Cond.constant own i (i32 v)) ∈ AW) (d : decode cc pc = .ok (.ldc_w i, 3)) (hn : pc + 3 = n)
    (k : XW E p l e R s m args below meth c nL mc ms Q G kc ks n L (.int (i32 v) :: st)) : XW E p l e R s m args below meth c nL mc ms Q G kc ks pc L st := by
  subst hn
  intro H locs cells slots ls h1 h2 h3 h4 h5
  exact lv_ldcw C.1 C.2.1 C.2.2.2.1 (C.2.2.2.2.1 _ hc) d (k H locs cells slots ls h1 h2 h3 h4 h5)
end XT2
def RS (R : RT) : Prop := ∀ a : Nat, (a : Int) < R 7 0 → (0 ≤ R 18 a ∧ R 18 a ≤ 9) ∧ (-1 ≤ R 19 a ∧ R 19 a ≤ 999) ∧ (0 ≤ R 21 a ∧ R 21 a ≤ 999) ∧ (-1 ≤ R 23 a ∧ R 23 a ≤ 1000)
def RR (R : RT) : Prop := (0 ≤ R 28 0 ∧ R 28 0 ≤ 40) ∧ (∀ r : Nat, (r : Int) < R 28 0 → 1 ≤ R 30 r ∧ R 30 r ≤ 6) ∧ ∀ q : Nat, 0 ≤ R 32 q ∧ R 32 q ≤ 12
def rNear (R : RT) (d : Int) (k : Nat) : Bool := rIn R (R 37 k) d || rIn R d (R 37 k)
def rBarK (R : RT) (a d w : Int) (k : Nat) : Bool := rHas (R 40 k) 1 && (decide (R 35 k = R 18 a.toNat) && ((decide (R 41 k = -1) || decide (R 41 k = w)) && (rNear R d k && rBegins (R 39 k) (R 21 a.toNat))))
def rBarF (R : RT) (a d w : Int) : Nat → Bool
  | 0 => false
  | n + 1 => rBarF R a d w n || rBarK R a d w n
def rBar (R : RT) (a d w : Int) : Bool := rBarF R a d w (R 34 0).toNat
def rOwnD (R : RT) (a : Int) : Bool := decide (R 20 a.toNat = -1) || (decide (¬ R 6 (R 20 a.toNat).toNat = 0) && decide (R 20 a.toNat = R 9 a.toNat))
def rKind (f : Int) : Bool := rLax f || rStrict f
def rStrg (R : RT) : Bool := decide (¬ R 68 0 = 0) && decide (¬ R 62 0 = 2)
def rRf1 (R : RT) (a : Int) : Bool := !rOwnD R a && (!rIn R (R 9 a.toNat) (R 20 a.toNat) || decide (¬ R 6 (R 20 a.toNat).toNat = 0))
def rRf2 (R : RT) (a : Int) : Bool := if rHas (R 22 a.toNat) 1 = true then decide (R 8 a.toNat = 0) else (!rKind (R 22 a.toNat) || (rHas (R 22 a.toNat) 2 || (rHas (R 22 a.toNat) 16 || rHas (R 22 a.toNat) 32)))
def rRf3 (R : RT) (a : Int) : Bool := (rHas (R 22 a.toNat) 32 && (decide (¬ R 20 a.toNat = -1) || decide (¬ R 21 a.toNat = 0))) || ((rKind (R 22 a.toNat) && rStrg R) || (!rHas (R 22 a.toNat) 2 && (decide (¬ R 2 0 = 0) && rStrg R)))
def rRf4 (R : RT) (a w : Int) : Bool := decide (R 8 a.toNat = 0) && rBar R a (if rOwnD R a = true then R 9 a.toNat else R 20 a.toNat) w
def rRefuses (R : RT) (a w : Int) : Bool := rRf1 R a || (rRf2 R a || (rRf3 R a || rRf4 R a w))
def rThere (R : RT) (k a : Int) : Bool := if R 38 k.toNat = 0 then rIn R (R 9 a.toNat) (R 37 k.toNat) else decide (R 37 k.toNat = R 9 a.toNat)
def rFits (R : RT) (k a w : Int) : Bool := rThere R k a && (rBegins (R 39 k.toNat) (R 11 a.toNat) && ((!rHas (R 40 k.toNat) 1 || decide (R 8 a.toNat = 1)) && (decide (R 41 k.toNat = -1) || decide (R 41 k.toNat = w))))
def rComes (R : RT) (k : Int) : Bool := decide (R 68 0 = 0) || (!rKind (R 40 k.toNat) || (rLax (R 40 k.toNat) && (decide (R 62 0 = 2) && decide (R 66 0 = 0))))
def rGoes (R : RT) (k a w : Int) : Bool := rFits R k a w && (rComes R k && !(decide (¬ R 2 0 = 0) && (decide (¬ R 68 0 = 0) && (decide (¬ R 62 0 = 2) && decide (R 41 k.toNat = -1)))))
def rReqC (R : RT) (a : Int) : Int := if rIsRequest R a = true then 0 else 1
def rHops (R : RT) (a : Int) : Int := if 0 < rReqC R a then 0 else R 30 a.toNat
def rJud (R : RT) (a : Int) : Int := if 0 < rReqC R a then 0 else R 29 a.toNat
def rIsHop (R : RT) (a b : Int) : Bool := rIsRequest R a && rLies b 0 (R 30 a.toNat - 1)
def rHopC (R : RT) (a b : Int) : Int := if rIsHop R a b = true then 0 else 1
def rHop (R : RT) (a b : Int) : Int := if 0 < rHopC R a b then 0 else R 31 (6 * a + b).toNat
def rSentC (R : RT) (a b q : Int) : Int := if (rIsHop R a b && decide (0 ≤ q)) = true then 0 else 1
def rSent (R : RT) (a b q : Int) : Int := if 0 < rSentC R a b q then 0 else if q < R 32 (6 * a + b).toNat then R 33 (12 * (6 * a + b) + q).toNat else -1
def rCkC (R : RT) (a : Int) : Int := if rLies a 0 (R 34 0 - 1) = true then 0 else 1
def rCk (R : RT) (a : Int) : Int := if 0 < rCkC R a then 0 else 100000 * R 37 a.toNat + 1000 * R 35 a.toNat + R 36 a.toNat + (if R 41 a.toNat = -1 then 0 else 50000000)
def rCntC (a : Int) : Int := if rLies a 0 2 = true then 0 else 1
def rCnt (R : RT) (a : Int) : Int := if 0 < rCntC a then 0 else if a = 0 then R 45 0 else if a = 1 then R 44 0 else R 53 0
