/-! what stays: kinds, fields and lists of old things -/
def rkFr (ks ls : List Nat) (G G' : GT) : Prop := (∀ x, gK G x ≠ 0 → gK G' x = gK G x) ∧ (∀ k x, gK G x ≠ 0 → k ∉ ks → gI G' k x = gI G k x ∧ gP G' k x = gP G k x) ∧ (∀ x, gK G x ≠ 0 → x ∉ ls → gL G' x = gL G x) ∧ gR G' = gR G ∧ (∀ k x, 1500 ≤ k → gP G' k x = gP G k x) ∧ (708 ∉ ks → ∀ x, gK G x ≠ 0 → gA G' x = gA G x)
section FRM
variable {ks ls : List Nat} {G G1 G2 : GT} {q k a : Nat}
theorem fr_rfl : rkFr ks ls G G := ⟨fun _ _ => rfl, fun _ _ _ _ => ⟨rfl, rfl⟩, fun _ _ _ => rfl, rfl, fun _ _ _ => rfl, fun _ _ _ => rfl⟩
theorem fr_tr (h1 : rkFr ks ls G G1) (h2 : rkFr ks ls G1 G2) : rkFr ks ls G G2 :=
  ⟨fun x hx => (h2.1 x (by rw [h1.1 x hx]; exact hx)).trans (h1.1 x hx), fun k x hx hk => ⟨(h2.2.1 k x (by rw [h1.1 x hx]; exact hx) hk).1.trans (h1.2.1 k x hx hk).1, (h2.2.1 k x (by rw [h1.1 x hx]; exact hx) hk).2.trans (h1.2.1 k x hx hk).2⟩,
   fun x hx hl => (h2.2.2.1 x (by rw [h1.1 x hx]; exact hx) hl).trans (h1.2.2.1 x hx hl), h2.2.2.2.1.trans h1.2.2.2.1, fun k x hk => (h2.2.2.2.2.1 k x hk).trans (h1.2.2.2.2.1 k x hk), fun h8 x hx => (h2.2.2.2.2.2 h8 x (by rw [h1.1 x hx]; exact hx)).trans (h1.2.2.2.2.2 h8 x hx)⟩
theorem fr_wide {ks' ls' : List Nat} (h : rkFr ks ls G G1) (hk : ∀ k ∈ ks, k ∈ ks') (hl : ∀ x ∈ ls, x ∈ ls') : rkFr ks' ls' G G1 := ⟨h.1, fun k x hx hn => h.2.1 k x hx (fun z => hn (hk k z)), fun x hx hn => h.2.2.1 x hx (fun z => hn (hl x z)), h.2.2.2.1, h.2.2.2.2.1, fun h8 => h.2.2.2.2.2 (fun z => h8 (hk _ z))⟩
theorem fr_q (h : rkFr ks ls G G1) (hq : gK G1 q = 0) : gK G q = 0 := Decidable.byContradiction fun z => z ((h.1 q z).symm.trans hq)
theorem fr_ne {x : Nat} (hx : gK G x ≠ 0) (hq : gK G q = 0) : x ≠ q := fun z => hx (by rw [z]; exact hq)
theorem fr_sI {v : Int} (hk : k ∈ ks) (hk2 : k < 1500) (h : rkFr ks ls G G1) : rkFr ks ls G (sI G1 k a v) :=
  ⟨h.1, fun j x hx hj => ⟨(show u2 (gI G1) k a v j x = _ from u2_k (fun z => hj (by rw [z]; exact hk))).trans (h.2.1 j x hx hj).1, (h.2.1 j x hx hj).2⟩, h.2.2⟩
theorem fr_sP {v : Option Nat} (hk : k ∈ ks) (hk2 : k < 1500) (h : rkFr ks ls G G1) : rkFr ks ls G (sP G1 k a v) :=
  ⟨h.1, fun j x hx hj => ⟨(h.2.1 j x hx hj).1, (show u2 (gP G1) k a v j x = _ from u2_k (fun z => hj (by rw [z]; exact hk))).trans (h.2.1 j x hx hj).2⟩, h.2.2.1, h.2.2.2.1, fun j x hj => (show u2 (gP G1) k a v j x = _ from u2_k (by omega)).trans (h.2.2.2.2.1 j x hj), h.2.2.2.2.2⟩
theorem fr_sIq {v : Int} (hq : gK G q = 0) (h : rkFr ks ls G G1) : rkFr ks ls G (sI G1 k q v) :=
  ⟨h.1, fun j x hx hj => ⟨(show u2 (gI G1) k q v j x = _ from u2_a (fr_ne hx hq)).trans (h.2.1 j x hx hj).1, (h.2.1 j x hx hj).2⟩, h.2.2⟩
theorem fr_sPq {v : Option Nat} (hq : gK G q = 0) (hk2 : k < 1500) (h : rkFr ks ls G G1) : rkFr ks ls G (sP G1 k q v) :=
  ⟨h.1, fun j x hx hj => ⟨(h.2.1 j x hx hj).1, (show u2 (gP G1) k q v j x = _ from u2_a (fr_ne hx hq)).trans (h.2.1 j x hx hj).2⟩, h.2.2.1, h.2.2.2.1, fun j x hj => (show u2 (gP G1) k q v j x = _ from u2_k (by omega)).trans (h.2.2.2.2.1 j x hj), h.2.2.2.2.2⟩
theorem fr_sL {v : List Nat} (ha : a ∈ ls) (h : rkFr ks ls G G1) : rkFr ks ls G (sL G1 a v) :=
  ⟨h.1, h.2.1, fun x hx hl => (show va_up (gL G1) a v x = _ from if_neg (fun z => hl (by rw [z]; exact ha))).trans (h.2.2.1 x hx hl), h.2.2.2⟩
theorem fr_sLq {v : List Nat} (hq : gK G q = 0) (h : rkFr ks ls G G1) : rkFr ks ls G (sL G1 q v) :=
  ⟨h.1, h.2.1, fun x hx hl => (show va_up (gL G1) q v x = _ from if_neg (fr_ne hx hq)).trans (h.2.2.1 x hx hl), h.2.2.2⟩
theorem fr_sKq (hq : gK G q = 0) (h : rkFr ks ls G G1) : rkFr ks ls G (sK G1 q k) :=
  ⟨fun x hx => (show va_up (gK G1) q k x = _ from if_neg (fr_ne hx hq)).trans (h.1 x hx), h.2.1, h.2.2⟩
theorem fr_sA {j : Nat} {v : Int} (h8 : 708 ∈ ks) (h : rkFr ks ls G G1) : rkFr ks ls G (sA G1 a j v) := ⟨h.1, h.2.1, h.2.2.1, h.2.2.2.1, h.2.2.2.2.1, fun z => absurd h8 z⟩
theorem fr_nA (hq : gK G q = 0) (h : rkFr ks ls G G1) : rkFr ks ls G (nA G1 q) :=
  ⟨fun x hx => (show va_up (gK G1) q 25 x = _ from if_neg (fr_ne hx hq)).trans (h.1 x hx), h.2.1, h.2.2.1, h.2.2.2.1, h.2.2.2.2.1, fun h8 x hx => (show (fun j => if x = q then 0 else gA G1 x j) = gA G1 x from funext fun j => if_neg (fr_ne hx hq)).trans (h.2.2.2.2.2 h8 x hx)⟩
theorem fr_nO (hq : gK G q = 0) (hk : k < 15) (h : rkFr ks ls G G1) : rkFr ks ls G (nO G1 q k) :=
  ⟨fun x hx => (show va_up (gK G1) q k x = _ from if_neg (fr_ne hx hq)).trans (h.1 x hx),
   fun j x hx hj => ⟨(show (if x = q ∧ j / 100 = k then 0 else gI G1 j x) = _ from if_neg (fun z => fr_ne hx hq z.1)).trans (h.2.1 j x hx hj).1, (show (if x = q ∧ j / 100 = k then none else gP G1 j x) = _ from if_neg (fun z => fr_ne hx hq z.1)).trans (h.2.1 j x hx hj).2⟩,
   h.2.2.1, h.2.2.2.1, fun j x hj => (show (if x = q ∧ j / 100 = k then none else gP G1 j x) = _ from if_neg (by omega)).trans (h.2.2.2.2.1 j x hj), h.2.2.2.2.2⟩
theorem nO_K {x : Nat} (hx : gK G x ≠ 0) (hq : gK G q = 0) : gK (nO G q k) x = gK G x := if_neg (fr_ne hx hq)
theorem nO_q : gK (nO G q k) q = k := if_pos rfl
theorem nO_I {j x : Nat} (h : j / 100 ≠ k) : gI (nO G q k) j x = gI G j x := if_neg (fun z => h z.2)
theorem nO_P {j x : Nat} (h : j / 100 ≠ k) : gP (nO G q k) j x = gP G j x := if_neg (fun z => h z.2)
theorem nO_I0 {j : Nat} (h : j / 100 = k) : gI (nO G q k) j q = 0 := if_pos ⟨rfl, h⟩
theorem nO_P0 {j : Nat} (h : j / 100 = k) : gP (nO G q k) j q = none := if_pos ⟨rfl, h⟩
theorem sL_s {v : List Nat} : gL (sL G a v) a = v := if_pos rfl
theorem sL_n {v : List Nat} {x : Nat} (h : x ≠ a) : gL (sL G a v) x = gL G x := if_neg h
end FRM
/-- entries of lists -/
theorem rkAt_inj {G : GT} {b f : Nat} {n i j : Int} (h : ∀ i, 0 ≤ i → i < n → gI G f (rkAt G b i) = i) (hi : 0 ≤ i ∧ i < n) (hj : 0 ≤ j ∧ j < n) (e : rkAt G b i = rkAt G b j) : i = j := by
  have h1 := h i hi.1 hi.2
  rw [e, h j hj.1 hj.2] at h1
  exact h1.symm
theorem rkOp_some {G : GT} {b x : Nat} {i : Int} (h : rkOp G b i = some x) : ¬ i = -1 ∧ rkAt G b i = x := by
  unfold rkOp at h
  split at h
  · cases h
  · exact ⟨by assumption, Option.some.inj h⟩
theorem rkOp_none {G : GT} {b : Nat} {i : Int} (h : rkOp G b i = none) : i = -1 := by
  unfold rkOp at h
  split at h
  · assumption
  · cases h
theorem rkOp_inj {G : GT} {b f : Nat} {n i j : Int} (h : ∀ i, 0 ≤ i → i < n → gI G f (rkAt G b i) = i) (hi : -1 ≤ i ∧ i < n) (hj : -1 ≤ j ∧ j < n) (e : rkOp G b i = rkOp G b j) : i = j := by
  by_cases c1 : i = -1
  · subst c1
    rw [rkOp_n] at e
    exact (rkOp_none e.symm).symm
  · by_cases c2 : j = -1
    · subst c2
      rw [rkOp_n] at e
      exact absurd (rkOp_none e) c1
    · rw [rkOp_s (by omega), rkOp_s (by omega)] at e
      exact rkAt_inj h ⟨by omega, hi.2⟩ ⟨by omega, hj.2⟩ (Option.some.inj e)
theorem rkAt_same {G G' : GT} {b : Nat} (h : gL G' b = gL G b) (i : Int) : rkAt G' b i = rkAt G b i := by unfold rkAt; rw [h]
theorem rkOp_same {G G' : GT} {b : Nat} (h : gL G' b = gL G b) (i : Int) : rkOp G' b i = rkOp G b i := by unfold rkOp; rw [rkAt_same h]
theorem rkAt_app {G G' : GT} {b q : Nat} {n : Int} (hl : ((gL G b).length : Int) = n) (h : gL G' b = gL G b ++ [q]) {i : Int} (h0 : 0 ≤ i) (h1 : i < n) : rkAt G' b i = rkAt G b i := by
  unfold rkAt
  rw [h, List.getD_eq_getElem?_getD, List.getD_eq_getElem?_getD, List.getElem?_append_left (by omega)]
theorem rkAt_new {G G' : GT} {b q : Nat} {n : Int} (hl : ((gL G b).length : Int) = n) (h : gL G' b = gL G b ++ [q]) : rkAt G' b n = q := by
  unfold rkAt
  rw [h, List.getD_eq_getElem?_getD, show n.toNat = (gL G b).length by omega, List.getElem?_append_right (Nat.le_refl _), Nat.sub_self]
  rfl
theorem rkOp_app {G G' : GT} {b q : Nat} {n : Int} (hl : ((gL G b).length : Int) = n) (h : gL G' b = gL G b ++ [q]) {i : Int} (h0 : -1 ≤ i) (h1 : i < n) : rkOp G' b i = rkOp G b i := by
  by_cases c : i = -1
  · rw [c, rkOp_n, rkOp_n]
  · rw [rkOp_s (by omega), rkOp_s (by omega), rkAt_app hl h (by omega) h1]
/-- what holds of the reference besides -/
def rkU (R : RT) : Prop := (∀ i j : Nat, (i : Int) < R 3 0 → (j : Int) < R 3 0 → R 4 i = R 4 j → R 5 i = R 5 j → i = j) ∧
  (∀ i j : Nat, (i : Int) < R 7 0 → (j : Int) < R 7 0 → R 8 i = R 8 j → R 9 i = R 9 j → R 10 i = R 10 j → R 11 i = R 11 j → i = j) ∧ (∀ i : Nat, (i : Int) < R 7 0 → rIsPath (R 11 i) = true)
def rkI (R : RT) : Prop := RH R ∧ RA R ∧ RAd R ∧ RHl R ∧ RP R ∧ RS R ∧ (∀ k j, InR (R k j)) ∧ rkU R
/-- the program's picture, told by the reference's: hosts, addresses, pages -/
def rkW (G : GT) (B : Nat → Nat) (R : RT) : Prop := rkB G B ∧ rkH G B R ∧ rkA G B R ∧ rkP G B R ∧ rkI R
/-- the exceptions by their numbers -/
def rkX (nx : String) (c : Int) : Prop := (nx = "java/lang/IndexOutOfBoundsException" ∧ c = 1) ∨ (nx = "java/lang/IllegalArgumentException" ∧ c = 2) ∨ (nx = "java/lang/IllegalStateException" ∧ c = 3)
theorem rkX1 {c : Int} (h : c = 1) : rkX "java/lang/IndexOutOfBoundsException" c := Or.inl ⟨rfl, h⟩
theorem rkX2 {c : Int} (h : c = 2) : rkX "java/lang/IllegalArgumentException" c := Or.inr (Or.inl ⟨rfl, h⟩)
theorem rkX3 {c : Int} (h : c = 3) : rkX "java/lang/IllegalStateException" c := Or.inr (Or.inr ⟨rfl, h⟩)
/-- a host that stands alone is found first and last -/
theorem rHostOf_one {R : RT} {a w : Int} {i : Nat} (ha : R 4 i = a ∧ R 5 i = w) : ∀ n : Nat, i < n → (∀ j : Nat, j < n → R 4 j = a → R 5 j = w → j = i) → rHostOf R a w n = i := by
  intro n
  induction n with
  | zero => intro h; omega
  | succ n ih =>
    intro h hu
    unfold rHostOf
    by_cases c : n = i
    · subst c
      rw [if_pos ha]
    · rw [if_neg (fun z => c (hu n (by omega) z.1 z.2))]
      exact ih (by omega) (fun j hj => hu j (by omega))
theorem rHostOf_no {R : RT} {a w : Int} : ∀ n : Nat, (∀ j : Nat, j < n → ¬ (R 4 j = a ∧ R 5 j = w)) → rHostOf R a w n = -1 := by
  intro n
  induction n with
  | zero => intro _; rfl
  | succ n ih =>
    intro h
    unfold rHostOf
    rw [if_neg (h n (by omega))]
    exact ih (fun j hj => h j (by omega))
theorem rFind_one {R : RT} {a b c d : Int} {i : Nat} (ha : R 8 i = a ∧ R 9 i = b ∧ R 10 i = c ∧ R 11 i = d) : ∀ n : Nat, i < n → (∀ j : Nat, j < n → R 8 j = a → R 9 j = b → R 10 j = c → R 11 j = d → j = i) → rFind R a b c d n = i := by
  intro n
  induction n with
  | zero => intro h; omega
  | succ n ih =>
    intro h hu
    unfold rFind
    by_cases e : n = i
    · subst e
      rw [if_pos (by simpa using ha)]
    · rw [if_neg (fun z => e (by
        have z2 : R 8 n = a ∧ R 9 n = b ∧ R 10 n = c ∧ R 11 n = d := by simpa using z
        exact hu n (by omega) z2.1 z2.2.1 z2.2.2.1 z2.2.2.2))]
      exact ih (by omega) (fun j hj => hu j (by omega))
theorem rFind_no {R : RT} {a b c d : Int} : ∀ n : Nat, (∀ j : Nat, j < n → ¬ (R 8 j = a ∧ R 9 j = b ∧ R 10 j = c ∧ R 11 j = d)) → rFind R a b c d n = -1 := by
  intro n
  induction n with
  | zero => intro _; rfl
  | succ n ih =>
    intro h
    unfold rFind
    rw [if_neg (fun z => h n (by omega) (by simpa using z))]
    exact ih (fun j hj => h j (by omega))
