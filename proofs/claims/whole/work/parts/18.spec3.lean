/-! what the reference's methods answer: connections, cookies, referrers -/
/-- rows lo to hi moved down by one, from place i on to below k -/
def rShift (lo hi : Nat) (R : RT) (i k : Int) : RT := fun f j => if (lo ≤ f ∧ f ≤ hi) ∧ i ≤ (j : Int) ∧ (j : Int) < k then R f (j + 1) else R f j
theorem rShift_0 {lo hi : Nat} {R : RT} {i : Int} : rShift lo hi R i i = R := by
  funext f j
  unfold rShift
  rw [if_neg (by omega)]
theorem rShift_out {lo hi : Nat} {R : RT} {i k : Int} {f : Nat} (h : f < lo ∨ hi < f) (j : Nat) : rShift lo hi R i k f j = R f j := by
  unfold rShift
  rw [if_neg (by omega)]
theorem rShift_up {lo hi : Nat} {R : RT} {i k : Int} {f j : Nat} (h : k ≤ (j : Int)) : rShift lo hi R i k f j = R f j := by
  unfold rShift
  rw [if_neg (by omega)]
theorem rShift_in {lo hi : Nat} {R : RT} {i k : Int} {f j : Nat} (h : (lo ≤ f ∧ f ≤ hi) ∧ i ≤ (j : Int) ∧ (j : Int) < k) : rShift lo hi R i k f j = R f (j + 1) := by
  unfold rShift
  rw [if_pos h]
def rRows (S : RT) (k : Nat) : List Nat → RT → RT
  | [], T => T
  | f :: fs, T => rRows S k fs (u2 T f k (S f (k + 1)))
theorem rRows_at {S : RT} {k : Nat} : ∀ (fs : List Nat) (T : RT) (f j : Nat), rRows S k fs T f j = if j = k ∧ f ∈ fs then S f (k + 1) else T f j := by
  intro fs
  induction fs with
  | nil => intro T f j; simp [rRows]
  | cons g fs ih =>
    intro T f j
    rw [rRows, ih]
    by_cases h1 : j = k ∧ f ∈ fs
    · rw [if_pos h1, if_pos ⟨h1.1, List.mem_cons_of_mem _ h1.2⟩]
    · rw [if_neg h1]
      by_cases h2 : f = g ∧ j = k
      · obtain ⟨rfl, rfl⟩ := h2
        rw [u2_s, if_pos ⟨rfl, List.mem_cons_self⟩]
      · rw [u2_n h2, if_neg (fun z => ?_)]
        rcases List.mem_cons.mp z.2 with z2 | z2
        · exact h2 ⟨z2, z.1⟩
        · exact h1 ⟨z.1, z2⟩
theorem rShift_step {lo hi : Nat} {R : RT} {i k : Int} (fs : List Nat) (h0 : 0 ≤ i) (hi2 : i ≤ k) (hf : ∀ f, f ∈ fs ↔ lo ≤ f ∧ f ≤ hi) : rShift lo hi R i (k + 1) = rRows (rShift lo hi R i k) k.toNat fs (rShift lo hi R i k) := by
  funext f j
  rw [rRows_at]
  by_cases h : j = k.toNat ∧ f ∈ fs
  · rw [if_pos h, rShift_in ⟨(hf f).mp h.2, by omega, by omega⟩, rShift_up (by omega), h.1]
  · rw [if_neg h]
    unfold rShift
    by_cases c : (lo ≤ f ∧ f ≤ hi) ∧ i ≤ (j : Int) ∧ (j : Int) < k
    · rw [if_pos c, if_pos ⟨c.1, c.2.1, by omega⟩]
    · rw [if_neg c, if_neg (fun z => c ⟨z.1, z.2.1, ?_⟩)]
      by_cases q : j = k.toNat
      · exact absurd ⟨q, (hf f).mpr z.1⟩ h
      · omega
def rCloses (R : RT) (i : Int) : RT := rShift 46 52 (u2 R 44 0 (R 44 0 - 1)) i (R 44 0 - 1)
def rDrops (R : RT) (i : Int) : RT := rShift 35 43 (u2 R 34 0 (R 34 0 - 1)) i (R 34 0 - 1)
def rMany (w : Int) : Int := if 99 < w then 3 else if 9 < w then 2 else if 0 < w then 1 else 0
theorem rMany_in (w : Int) : 0 ≤ rMany w ∧ rMany w ≤ 3 := by unfold rMany; (repeat (first | omega | split))
def rDivs : Nat → Int → Int
  | 0, x => x
  | n + 1, x => rDivs n (x / 10)
def rBegins (w q : Int) : Bool := decide (rDivs (rMany q - rMany w).toNat q = w)
def rHas (f g : Int) : Bool := decide (¬ iand f g = 0)
def rStrict (f : Int) : Bool := rHas f 8
def rLax (f : Int) : Bool := rHas f 4 && !rHas f 8
/-- cookies -/
def RC (R : RT) : Prop := (0 ≤ R 34 0 ∧ R 34 0 ≤ 11) ∧ ∀ j : Nat, (j : Int) < R 34 0 → (0 ≤ R 37 j ∧ R 37 j < R 3 0) ∧ (0 ≤ R 39 j ∧ R 39 j ≤ 999) ∧ (0 ≤ R 35 j ∧ R 35 j ≤ 9) ∧ (0 ≤ R 36 j ∧ R 36 j ≤ 999)
def rAmong (R : RT) (k all site w : Int) : Bool := decide (¬ all = 0) || (decide (rSiteOf R (R 37 k.toNat) = site) && decide (R 41 k.toNat = w))
def rCount (R : RT) (all site w : Int) : Nat → Int
  | 0 => 0
  | n + 1 => rCount R all site w n + bI (rAmong R n all site w)
theorem rCount_in (R : RT) (all site w : Int) : ∀ n, 0 ≤ rCount R all site w n ∧ rCount R all site w n ≤ n := by
  intro n
  induction n with
  | zero => rw [rCount]; omega
  | succ n ih =>
    rw [rCount]
    have := bI_01 (rAmong R n all site w)
    omega
def rEv1 (R : RT) (all site w : Int) : Nat → Int
  | 0 => -1
  | n + 1 => if (rAmong R n all site w && !rHas (R 40 n) 1) = true ∧ (rEv1 R all site w n = -1 ∨ R 43 n < R 43 (rEv1 R all site w n).toNat) then (n : Int) else rEv1 R all site w n
theorem rEv1_in (R : RT) (all site w : Int) : ∀ n, -1 ≤ rEv1 R all site w n ∧ rEv1 R all site w n < n := by
  intro n
  induction n with
  | zero => rw [rEv1]; omega
  | succ n ih =>
    rw [rEv1]
    split <;> omega
def rEv2 (R : RT) (all site w : Int) : Nat → Int → Int → Int
  | 0, _, b => b
  | n + 1, k, b => if k < R 34 0 ∧ (b = -1 ∨ rHas (R 40 b.toNat) 1 = true) then rEv2 R all site w n (k + 1) (if rAmong R k all site w = true ∧ (b = -1 ∨ R 43 k.toNat < R 43 b.toNat) then k else b) else b
def rEv (R : RT) (all site w : Int) : Int := rEv2 R all site w 12 0 (rEv1 R all site w (R 34 0).toNat)
theorem rEv2_fuel {R : RT} {all site w : Int} : ∀ (n m : Nat) (k b : Int), (R 34 0 - k).toNat < n → (R 34 0 - k).toNat < m → rEv2 R all site w n k b = rEv2 R all site w m k b := by
  intro n
  induction n with
  | zero => intro m k b h; omega
  | succ n ih =>
    intro m k b h1 h2
    cases m with
    | zero => omega
    | succ m =>
      rw [rEv2, rEv2]
      split
      · rename_i c
        exact ih m _ _ (by omega) (by omega)
      · rfl
/-- connections -/
def RLn (R : RT) : Prop := (0 ≤ R 44 0 ∧ R 44 0 ≤ 6) ∧ ∀ j : Nat, 0 ≤ R 51 j
def rLineIs (R : RT) (a cr w : Int) (k : Nat) : Bool := decide (R 46 k = R 8 a.toNat) && (decide (R 47 k = R 9 a.toNat) && (decide (R 48 k = rGate R a) && (decide (R 49 k = cr) && decide (R 50 k = w))))
def rConF (R : RT) (a cr w : Int) : Nat → Int
  | 0 => -1
  | n + 1 => if rLineIs R a cr w n = true then (n : Int) else rConF R a cr w n
def rOldF (R : RT) : Nat → Int
  | 0 => 0
  | n + 1 => if R 52 n < R 52 (rOldF R n).toNat then (n : Int) else rOldF R n
theorem rConF_in (R : RT) (a cr w : Int) : ∀ n, -1 ≤ rConF R a cr w n ∧ rConF R a cr w n < n := by
  intro n
  induction n with
  | zero => rw [rConF]; omega
  | succ n ih =>
    rw [rConF]
    split <;> omega
theorem rOldF_in (R : RT) : ∀ n : Nat, 0 ≤ rOldF R n ∧ (rOldF R n < n ∨ (n = 0 ∧ rOldF R n = 0)) := by
  intro n
  induction n with
  | zero => rw [rOldF]; omega
  | succ n ih =>
    rw [rOldF]
    split <;> omega
theorem rOldF_le (R : RT) : ∀ n : Nat, 0 ≤ rOldF R n ∧ rOldF R n ≤ n := by
  intro n
  have := rOldF_in R n
  omega
theorem rGate_u {R : RT} {k j : Nat} {v a : Int} (h8 : 8 ≠ k) (h10 : 10 ≠ k) : rGate (u2 R k j v) a = rGate R a := by
  unfold rGate
  rw [u2_k h8, u2_k h10]
def rCF (R : RT) (a cr w : Int) : Int := rConF R a cr w (R 44 0).toNat
def rCO (R : RT) : Int := rOldF R (R 44 0).toNat
def rCV (R : RT) (a cr w : Int) : Int := if ¬ rCF R a cr w = -1 ∧ 20 < R 0 0 - R 51 (rCF R a cr w).toNat then -1 else rCF R a cr w
def rCR1 (R : RT) (a cr w : Int) : RT := if ¬ rCF R a cr w = -1 ∧ 20 < R 0 0 - R 51 (rCF R a cr w).toNat then rCloses R (rCF R a cr w) else if rCF R a cr w = -1 ∧ R 44 0 = 6 then rCloses R (rCO R) else R
def rAddLine (R : RT) (a cr w : Int) : RT := u2 (u2 (u2 (u2 (u2 (u2 (u2 R 46 (R 44 0).toNat (R 8 a.toNat)) 47 (R 44 0).toNat (R 9 a.toNat)) 48 (R 44 0).toNat (rGate R a)) 49 (R 44 0).toNat cr) 50 (R 44 0).toNat w) 44 0 (R 44 0 + 1)) 45 0 (R 45 0 + 1)
def rTouch (R : RT) (i : Int) : RT := u2 (u2 (u2 R 51 i.toNat (R 0 0)) 52 i.toNat (R 1 0)) 1 0 (R 1 0 + 1)
def rConR (R : RT) (a cr w : Int) : RT := if rCV R a cr w = -1 then rTouch (rAddLine (rCR1 R a cr w) a cr w) (rCR1 R a cr w 44 0) else rTouch (rCR1 R a cr w) (rCV R a cr w)
theorem rCloses_out {R : RT} {i : Int} {f : Nat} (h : f < 44 ∨ f = 45 ∨ 52 < f) (j : Nat) : rCloses R i f j = R f j := by
  unfold rCloses
  rw [rShift_out (by omega), u2_k (by omega)]
theorem rCloses_44 {R : RT} {i : Int} : rCloses R i 44 0 = R 44 0 - 1 := by
  unfold rCloses
  rw [rShift_out (by omega), u2_s]
theorem rDrops_out {R : RT} {i : Int} {f : Nat} (h : f < 34 ∨ 43 < f) (j : Nat) : rDrops R i f j = R f j := by
  unfold rDrops
  rw [rShift_out (by omega), u2_k (by omega)]
theorem rCR1_out {R : RT} {a cr w : Int} {f : Nat} (h : f < 44 ∨ f = 45 ∨ 52 < f) (j : Nat) : rCR1 R a cr w f j = R f j := by
  unfold rCR1
  split
  · exact rCloses_out h j
  · split
    · exact rCloses_out h j
    · rfl
/-- the request that goes on -/
def RQ (R : RT) : Prop := (0 ≤ R 61 0 ∧ R 61 0 < R 24 0) ∧ (0 ≤ R 62 0 ∧ R 62 0 ≤ 2) ∧ (0 ≤ R 66 0 ∧ R 66 0 ≤ 2)
def rFrom (R : RT) : Int := R 25 (R 61 0).toNat
def rRef (R : RT) (a : Int) : Int := if R 27 (R 61 0).toNat = 0 then 0 else if R 27 (R 61 0).toNat = 1 then 1 else if R 27 (R 61 0).toNat = 2 then (if rSame R a (rFrom R) = true then 2 else 0)
  else if R 27 (R 61 0).toNat = 3 then (if rSame R a (rFrom R) = true then 2 else if R 8 (rFrom R).toNat = 1 ∧ R 8 a.toNat = 0 then 0 else 1) else 2
def rCan (R : RT) (a : Int) : Bool := decide (¬ R 15 a.toNat = 0) || decide (R 63 0 = 0)
def rLets (R : RT) (a : Int) : Bool := if R 14 a.toNat = -2 then decide (R 63 0 = 0) else if R 14 a.toNat = -3 then decide (¬ R 67 0 = 0) && rCan R a else
  decide (0 ≤ R 14 a.toNat) && (rSame R (R 14 a.toNat) (rFrom R) && (decide (R 67 0 = 0) && rCan R a))
def rOrg (R : RT) (a : Int) : Int := 10000 * (16 * R 8 a.toNat + R 9 a.toNat) + rGate R a
def rHopV (R : RT) (a : Int) : Int := 1000 * a + 100 * R 66 0 + (if R 67 0 = 0 then 0 else 10) + rRef R a
def rRec (R : RT) (a q : Int) : RT := u2 (u2 (u2 R 31 q.toNat (rHopV R a)) 32 q.toNat 0) 30 (R 28 0).toNat (R 30 (R 28 0).toNat + 1)
def rMix (R : RT) (a : Int) : Int := if R 8 (rFrom R).toNat = 0 ∨ R 8 a.toNat = 1 ∨ R 62 0 = 2 then a else if R 62 0 = 0 then rFnd R 1 (R 9 a.toNat) (R 10 a.toNat) (R 11 a.toNat) else -1
theorem rRef_in (R : RT) (a : Int) : 0 ≤ rRef R a ∧ rRef R a ≤ 2 := by unfold rRef; (repeat (first | omega | split))
section XT
variable {E : EV} {p : Program} {l : Launch} {e : Env} {R : Room} {s : State} {m : MethodId} {args : Array Value} {below : List Frame} {meth : Method} {c : Code} {cc : ByteArray} {nL mc ms : Nat} {own : String} {ret : Option FieldType} {Q : State → Prop} {G : GT} {kc ks pc : Nat} {L : List (Option Value)} {st : List Value}
theorem x_tableIn (t : Nat) (v : Int) (C : CX E p R s m args meth c cc nL own mc ms ret) {x : Int} {dflt lo hi : Int} {offs : Array Int} {len : Nat} {off : Int} (d : decode cc pc = .ok (.tableswitch dflt lo hi offs, len)) (hr : InR x) (hx : x = v) (h1 : lo ≤ v ∧ v ≤ hi) (ho : offs[(v - lo).toNat]? = some off) (ht : (pc : Int) + off = (t : Int))
    (k : XW E p l e R s m args below meth c nL mc ms Q G kc ks t L st) : XW E p l e R s m args below meth c nL mc ms Q G kc ks pc L (.int (i32 x) :: st) := by
  subst hx
  intro H locs cells slots ls a1 a2 a3 a4 a5
  have e := i32_toInt hr
  exact lv_tableIn C.1 C.2.1 d (by rw [e]; omega) (by rw [e]; omega) (by rw [e]; exact ho) ht (k H locs cells slots ls a1 a2 a3 a4 a5)
theorem x_tableOut (t : Nat) (C : CX E p R s m args meth c cc nL own mc ms ret) {x : Int} {dflt lo hi : Int} {offs : Array Int} {len : Nat} (d : decode cc pc = .ok (.tableswitch dflt lo hi offs, len)) (hr : InR x) (hx : x < lo ∨ hi < x) (ht : (pc : Int) + dflt = (t : Int))
    (k : XW E p l e R s m args below meth c nL mc ms Q G kc ks t L st) : XW E p l e R s m args below meth c nL mc ms Q G kc ks pc L (.int (i32 x) :: st) := by
  intro H locs cells slots ls a1 a2 a3 a4 a5
  have e := i32_toInt hr
  exact lv_tableOut C.1 C.2.1 d (by rw [e]; exact hx) ht (k H locs cells slots ls a1 a2 a3 a4 a5)
end XT
