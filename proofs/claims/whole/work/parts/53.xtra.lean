/-! rows with a value given; a loop that makes things; lists by their length -/
theorem cat_rf {r : Option Nat} : (va_rf r).category = 1 := by cases r <;> rfl
theorem sl_len {av : List Value} (h : ∀ v ∈ av, v.category = 1) : (lg_sl av).length = av.length := by
  induction av with
  | nil => rfl
  | cons v t ih =>
    have e : lg_sl (v :: t) = .val v :: lg_sl t := by
      unfold lg_sl
      rw [List.flatMap_cons, if_neg (by rw [h v List.mem_cons_self]; decide)]
      rfl
    rw [e, List.length_cons, List.length_cons, ih (fun w hw => h w (List.mem_cons_of_mem _ hw))]
section XTR
variable {E : EV} {p : Program} {l : Launch} {e : Env} {R : Room} {s : State} {m : MethodId} {args : Array Value} {below : List Frame} {meth : Method} {c : Code} {cc : ByteArray} {nL mc ms : Nat} {own : String} {ret : Option FieldType} {Q : State → Prop} {G : GT} {kc ks pc : Nat} {L : List (Option Value)} {st st0 : List Value}
theorem x_getIv (n f : Nat) {ci j idx a : Nat} {v : Int} (C : CX E p R s m args meth c cc nL own mc ms ret) (F : FR own idx ci j) (d : decode cc pc = .ok (.getfield idx, 3)) (hn : pc + 3 = n) (hf : 100 * ci + j = f) (hr : isR f = false) (h3 : (Nat.ble 3 ci && Nat.ble ci 14) = true) (hk : gK G a = ci) (hv : gI G f a = v)
    (k : XW E p l e R s m args below meth c nL mc ms Q G kc ks n L (.int (i32 v) :: st)) : XW E p l e R s m args below meth c nL mc ms Q G kc ks pc L (.ref a :: st) :=
  x_getI n f C F d hn hf hr h3 hk (by rw [hv]; exact k)
theorem x_getPv (n f : Nat) {ci j idx a : Nat} {r : Option Nat} (C : CX E p R s m args meth c cc nL own mc ms ret) (F : FR own idx ci j) (d : decode cc pc = .ok (.getfield idx, 3)) (hn : pc + 3 = n) (hf : 100 * ci + j = f) (hr : isR f = true) (h3 : (Nat.ble 3 ci && Nat.ble ci 14) = true) (hk : gK G a = ci) (hv : gP G f a = r)
    (k : XW E p l e R s m args below meth c nL mc ms Q G kc ks n L (va_rf r :: st)) : XW E p l e R s m args below meth c nL mc ms Q G kc ks pc L (.ref a :: st) :=
  x_getP n f C F d hn hf hr h3 hk (by rw [hv]; exact k)
theorem x_loopK {α : Type} (μ : α → Nat) (I : α → Prop) (G' : α → GT) (L' : α → List (Option Value)) (st' : α → List Value) (kf sf : α → Nat) (a0 : α) (h0 : I a0) (hG : G' a0 = G) (hL : L' a0 = L) (hs : st' a0 = st) (hk : kf a0 ≤ kc ∧ sf a0 ≤ ks)
    (step : ∀ a, I a → (∀ b, I b → μ b < μ a → XW E p l e R s m args below meth c nL mc ms Q (G' b) (kf b) (sf b) pc (L' b) (st' b)) → XW E p l e R s m args below meth c nL mc ms Q (G' a) (kf a) (sf a) pc (L' a) (st' a)) : XW E p l e R s m args below meth c nL mc ms Q G kc ks pc L st := by
  subst hG
  subst hL
  subst hs
  refine x_weak hk.1 hk.2 ?_
  have key : ∀ (n : Nat) (a : α), μ a < n → I a → XW E p l e R s m args below meth c nL mc ms Q (G' a) (kf a) (sf a) pc (L' a) (st' a) := by
    intro n
    induction n with
    | zero => intro a h; omega
    | succ n ih => intro a h hI; exact step a hI (fun b hb hlt => ih b (by omega) hb)
  exact key _ a0 (Nat.lt_succ_self _) h0
/-- a state with facts that hold of every picture -/
theorem mt_mono {y : MethodName} {fr lo : Nat} {av : List Value} {post post' : Option Value → GT → Prop} (h : MT E l y cc nL ret fr lo mc ms av G post) (hq : ∀ v G', post v G' → post' v G') : MT E l y cc nL ret fr lo mc ms av G post' := by
  unfold MT Met MetFree at h ⊢
  intro p e a1 a2 a3 s m args below b1 b2 b3 b4
  obtain ⟨n, o, c1, c2, c3, ⟨⟨v, G', d1, d2, d3⟩, c5⟩, c6⟩ := h p e a1 a2 a3 s m args below b1 b2 b3 b4
  exact ⟨n, o, c1, c2, c3, ⟨⟨v, G', d1, d2, hq v G' d3⟩, c5⟩, c6⟩
end XTR
theorem c_sizev {E : EV} {l : Launch} {G : GT} {a : Nat} {v : Int} (hk : gK G a = 20) (hv : ((gL G a).length : Int) = v) : MT E l yJx4a65c_size_8abf5 cJx4a65c_size_8abf5 1 (some .int) 0 0 0 0 [.ref a] G (pD (some (.int (i32 v))) G) := by
  subst hv
  exact c_size hk
/-- the entry of a list by an Int, or null -/
def rkAt (G : GT) (b : Nat) (i : Int) : Nat := (gL G b).getD i.toNat 0
def rkOp (G : GT) (b : Nat) (i : Int) : Option Nat := if i = -1 then none else some (rkAt G b i)
theorem rkAt_get {G : GT} {b : Nat} {i n : Int} (hl : ((gL G b).length : Int) = n) (h0 : 0 ≤ i) (h1 : i < n) : (gL G b)[i.toNat]? = some (rkAt G b i) := by
  have h : i.toNat < (gL G b).length := by omega
  unfold rkAt
  rw [List.getD_eq_getElem?_getD, List.getElem?_eq_getElem h]
  rfl
theorem rkAt_mem {G : GT} {b : Nat} {n : Int} (hl : ((gL G b).length : Int) = n) {x : Nat} (h : x ∈ gL G b) : ∃ i : Int, 0 ≤ i ∧ i < n ∧ rkAt G b i = x := by
  obtain ⟨j, hj, rfl⟩ := List.getElem_of_mem h
  refine ⟨(j : Int), by omega, by omega, ?_⟩
  unfold rkAt
  rw [Int.toNat_natCast, List.getD_eq_getElem?_getD, List.getElem?_eq_getElem hj]
  rfl
theorem rkOp_n {G : GT} {b : Nat} : rkOp G b (-1) = none := if_pos rfl
theorem rkOp_s {G : GT} {b : Nat} {i : Int} (h : 0 ≤ i) : rkOp G b i = some (rkAt G b i) := if_neg (by omega)
/-- what holds of the program's own lists and of its two helpers -/
def rkB (G : GT) (B : Nat → Nat) : Prop :=
  (gK G (B 0) = 14 ∧ gK G (B 6) = 9 ∧ gK G (B 7) = 11) ∧ (gK G (B 1) = 20 ∧ gK G (B 2) = 20 ∧ gK G (B 3) = 20 ∧ gK G (B 4) = 20 ∧ gK G (B 5) = 20 ∧ gK G (B 8) = 20 ∧ gK G (B 9) = 20) ∧
  (gP G 1400 (B 0) = some (B 1) ∧ gP G 1401 (B 0) = some (B 2) ∧ gP G 1402 (B 0) = some (B 3) ∧ gP G 1403 (B 0) = some (B 4) ∧ gP G 1404 (B 0) = some (B 5) ∧ gP G 1405 (B 0) = some (B 6) ∧ gP G 1406 (B 0) = some (B 7) ∧ gP G 900 (B 6) = some (B 8) ∧ gP G 1100 (B 7) = some (B 9)) ∧
  (B 1 ≠ B 2 ∧ B 1 ≠ B 3 ∧ B 1 ≠ B 4 ∧ B 1 ≠ B 5 ∧ B 1 ≠ B 8 ∧ B 1 ≠ B 9 ∧ B 2 ≠ B 3 ∧ B 2 ≠ B 4 ∧ B 2 ≠ B 5 ∧ B 2 ≠ B 8 ∧ B 2 ≠ B 9 ∧ B 3 ≠ B 4 ∧ B 3 ≠ B 5 ∧ B 3 ≠ B 8 ∧ B 3 ≠ B 9 ∧ B 4 ≠ B 5 ∧ B 4 ≠ B 8 ∧ B 4 ≠ B 9 ∧ B 5 ≠ B 8 ∧ B 5 ≠ B 9 ∧ B 8 ≠ B 9)
/-- hosts: the program's and the reference's -/
def rkHo (G : GT) (B : Nat → Nat) (R : RT) (i : Int) (x : Nat) : Prop := gK G x = 8 ∧ gI G 800 x = i ∧ gP G 801 x = rkOp G (B 1) (R 4 i.toNat) ∧ gI G 802 x = R 5 i.toNat ∧ gI G 803 x = rDep R (R 4 i.toNat) ∧ gI G 804 x = R 6 i.toNat
def rkH (G : GT) (B : Nat → Nat) (R : RT) : Prop := ((gL G (B 1)).length : Int) = R 3 0 ∧ ∀ i, 0 ≤ i → i < R 3 0 → rkHo G B R i (rkAt G (B 1) i)
/-- addresses -/
def rkOrg (R : RT) (a : Int) : Int := (2 * R 9 a.toNat + R 8 a.toNat) * 10000 + rGate R a
def rkAll (R : RT) (a : Int) : Int := if R 14 a.toNat < 0 then R 14 a.toNat else rkOrg R (R 14 a.toNat)
def rkLn (G : GT) (B : Nat → Nat) (R : RT) (a : Int) (c : Nat) : Prop := gK G c = 6 ∧ gI G 600 c = R 18 a.toNat ∧ gI G 601 c = R 19 a.toNat ∧ gP G 602 c = rkOp G (B 1) (R 20 a.toNat) ∧ gI G 603 c = R 21 a.toNat ∧ gI G 604 c = R 22 a.toNat ∧ gI G 605 c = R 23 a.toNat
def rkTx (R : RT) (a : Int) (xs : List Nat) : Prop := ∀ k : Int, 0 ≤ k → (k < (xs.length : Int) → rSign R a k = ((xs.getD k.toNat 0 : Nat) : Int) ∧ xs.getD k.toNat 0 ≠ 32) ∧ ((xs.length : Int) ≤ k → rSign R a k = 32)
def rkAd (G : GT) (B : Nat → Nat) (R : RT) (i : Int) (x : Nat) : Prop :=
  (gK G x = 3 ∧ gI G 300 x = i ∧ gI G 301 x = R 8 i.toNat ∧ gP G 302 x = some (rkAt G (B 1) (R 9 i.toNat)) ∧ gI G 303 x = R 10 i.toNat ∧ gI G 304 x = R 11 i.toNat) ∧
  (∃ w, gP G 305 x = some w ∧ gK G w = 22 ∧ rkTx R i (gL G w)) ∧
  (gP G 306 x = rkOp G (B 2) (R 12 i.toNat) ∧ gI G 307 x = R 13 i.toNat ∧ gI G 308 x = rkAll R i ∧ gI G 309 x = R 15 i.toNat ∧ gI G 310 x = R 16 i.toNat ∧ gI G 311 x = R 17 i.toNat) ∧
  ((R 19 i.toNat = -1 ∧ gP G 312 x = none) ∨ (R 19 i.toNat ≠ -1 ∧ ∃ c, gP G 312 x = some c ∧ rkLn G B R i c))
def rkA (G : GT) (B : Nat → Nat) (R : RT) : Prop := ((gL G (B 2)).length : Int) = R 7 0 ∧ ∀ i, 0 ≤ i → i < R 7 0 → rkAd G B R i (rkAt G (B 2) i)
/-- pages -/
def rkPa (G : GT) (B : Nat → Nat) (R : RT) (i : Int) (x : Nat) : Prop := gK G x = 10 ∧ gP G 1000 x = some (rkAt G (B 2) (R 25 i.toNat)) ∧ gP G 1001 x = rkOp G (B 3) (R 26 i.toNat) ∧ gI G 1002 x = R 27 i.toNat
def rkP (G : GT) (B : Nat → Nat) (R : RT) : Prop := ((gL G (B 3)).length : Int) = R 24 0 ∧ ∀ i, 0 ≤ i → i < R 24 0 → rkPa G B R i (rkAt G (B 3) i)
