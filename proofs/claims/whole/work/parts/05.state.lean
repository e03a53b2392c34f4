/-! the picture of the heap: kinds of addresses, fields by their numbers (100 times the class's place in CL and the field's), lists and texts by what they hold, rows, and the reference's rows -/
abbrev GT : Type := (Nat → Nat) × (Nat → Nat → Int) × (Nat → Nat → Option Nat) × (Nat → List Nat) × (Nat → Nat → Int) × (Nat → Nat → Int)
abbrev EV : Type := va_G × (Nat → ClassId) × Nat × Nat
def gK (G : GT) : Nat → Nat := G.1
def gI (G : GT) : Nat → Nat → Int := G.2.1
def gP (G : GT) : Nat → Nat → Option Nat := G.2.2.1
def gL (G : GT) : Nat → List Nat := G.2.2.2.1
def gA (G : GT) : Nat → Nat → Int := G.2.2.2.2.1
def gR (G : GT) : Nat → Nat → Int := G.2.2.2.2.2
def u2 {α : Type} (f : Nat → Nat → α) (k a : Nat) (v : α) : Nat → Nat → α := fun k' a' => if k' = k ∧ a' = a then v else f k' a'
def sK (G : GT) (a k : Nat) : GT := (va_up G.1 a k, G.2)
def sI (G : GT) (k a : Nat) (v : Int) : GT := (G.1, u2 G.2.1 k a v, G.2.2)
def sP (G : GT) (k a : Nat) (v : Option Nat) : GT := (G.1, G.2.1, u2 G.2.2.1 k a v, G.2.2.2)
def sL (G : GT) (a : Nat) (v : List Nat) : GT := (G.1, G.2.1, G.2.2.1, va_up G.2.2.2.1 a v, G.2.2.2.2)
def sA (G : GT) (a j : Nat) (v : Int) : GT := (G.1, G.2.1, G.2.2.1, G.2.2.2.1, u2 G.2.2.2.2.1 a j v, G.2.2.2.2.2)
def sR (G : GT) (k j : Nat) (v : Int) : GT := (G.1, G.2.1, G.2.2.1, G.2.2.2.1, G.2.2.2.2.1, u2 G.2.2.2.2.2 k j v)
def wR (G : GT) (r : Nat → Nat → Int) : GT := (G.1, G.2.1, G.2.2.1, G.2.2.2.1, G.2.2.2.2.1, r)
theorem u2_s {α : Type} {f : Nat → Nat → α} {k a : Nat} {v : α} : u2 f k a v k a = v := if_pos ⟨rfl, rfl⟩
theorem u2_n {α : Type} {f : Nat → Nat → α} {k a k' a' : Nat} {v : α} (h : ¬ (k' = k ∧ a' = a)) : u2 f k a v k' a' = f k' a' := if_neg h
theorem u2_k {α : Type} {f : Nat → Nat → α} {k a k' a' : Nat} {v : α} (h : k' ≠ k) : u2 f k a v k' a' = f k' a' := if_neg (fun z => h z.1)
theorem u2_a {α : Type} {f : Nat → Nat → α} {k a k' a' : Nat} {v : α} (h : a' ≠ a) : u2 f k a v k' a' = f k' a' := if_neg (fun z => h z.2)
/-- an object's fields -/
def fv (G : GT) (c a j : Nat) : Value := if isR (100 * c + j) then va_rf (gP G (100 * c + j) a) else .int (i32 (gI G (100 * c + j) a))
def fl (G : GT) (c a : Nat) : List Value := (List.range (NF c)).map (fv G c a)
/-- the reference's fields -/
def mv (G : GT) (a j : Nat) : Value := if mS j then .int (i32 (gR G j 0)) else va_rf (gP G (1500 + j) a)
def ml (G : GT) (a : Nat) : List Value := (List.range 72).map (mv G a)
/-- what stands at an address, by its kind (lists and texts apart) -/
def ent (E : EV) (G : GT) (a : Nat) : Option va_E :=
  if 3 ≤ gK G a ∧ gK G a ≤ 14 then some (.inr (gK G a, fl G (gK G a) a))
  else if gK G a = 15 then some (.inr (15, ml G a))
  else if gK G a = 25 then some (.inl (E.2.1 0, 10, .inl (fun j => i32 (gA G a j))))
  else if gK G a = 26 then some (.inl (E.2.1 4, 1, .inr (.inl (fun j => Int64.ofInt (gA G a j)))))
  else if 100 ≤ gK G a ∧ gK G a < 172 then some (.inl ((if mZ (gK G a - 100) then E.2.1 1 else E.2.1 0), mN (gK G a - 100), .inl (fun j => i32 (gR G (gK G a - 100) j))))
  else none
/-- lists and texts: their own cell, and one that they alone hold -/
def cmp (E : EV) (G : GT) (f : Nat → Option va_E) (ow : Nat → Nat) (a : Nat) : Prop :=
  (gK G a = 20 → ∃ (m : Int32) (d : Nat), f a = some (.inr (2, [.int m, .ref d, .int (i32 (gL G a).length)])) ∧ (gL G a).length ≤ 1000 ∧
    ((gL G a = [] ∧ d = E.2.2.2) ∨ (gK G d = 0 ∧ ow d = a ∧ ∃ (n : Nat) (g : Nat → Option Nat), f d = some (.inl (E.2.1 3, n, .inr (.inr (.inr (.inr g))))) ∧ (gL G a).length ≤ n ∧ 2 ≤ n ∧ n ≤ 2000 ∧ ∀ (j x : Nat), (gL G a)[j]? = some x → g j = some x))) ∧
  (gK G a = 22 → ∃ (d : Nat) (h1 h2 : Int32), f a = some (.inr (0, [.ref d, .int 0, .int h1, .int h2])) ∧ gK G d = 0 ∧ ow d = a ∧ (gL G a).length ≤ 1000 ∧ (∀ x ∈ gL G a, x < 128) ∧
    f d = some (.inl (E.2.1 2, (gL G a).length, .inl (fun j => sb_b ((gL G a).getD j 0))))) ∧
  (gK G a = 24 → ∃ (d n : Nat) (g : Nat → Int32), f a = some (.inr (1, [.ref d, .int 0, .int 0, .int (i32 (gL G a).length)])) ∧ gK G d = 0 ∧ ow d = a ∧ (gL G a).length ≤ 1000 ∧ (∀ x ∈ gL G a, x < 128) ∧ (gL G a).length ≤ n ∧ n ≤ 5000 ∧ sb_Fit g ∧
    f d = some (.inl (E.2.1 2, n, .inl g)) ∧ ∀ (j x : Nat), (gL G a)[j]? = some x → g j = sb_b x)
def wfG (G : GT) : Prop :=
  (∀ k a, InR (gI G k a)) ∧ (∀ a j, InR (gA G a j)) ∧ (∀ k j, InR (gR G k j)) ∧ (∀ k a, isZ k = true → gI G k a = 0 ∨ gI G k a = 1) ∧ (∀ k j, mZ k = true → gR G k j = 0 ∨ gR G k j = 1) ∧
  (∀ x y, gK G x = gK G y → (gK G x = 15 ∨ 100 ≤ gK G x) → x = y) ∧
  (∀ a, gK G a = 0 ∨ (3 ≤ gK G a ∧ gK G a ≤ 15) ∨ gK G a = 20 ∨ gK G a = 22 ∨ gK G a = 24 ∨ gK G a = 25 ∨ gK G a = 26 ∨ (100 ≤ gK G a ∧ gK G a < 172 ∧ mS (gK G a - 100) = false))
def hp (E : EV) (G : GT) (H : Heap) : Prop := ∃ (f : Nat → Option va_E) (ow : Nat → Nat),
  (∀ a e, f a = some e → va_at E.1 CL (a, e) H ∧ E.2.2.1 ≤ a) ∧ (∀ a e, ent E G a = some e → f a = some e) ∧ (∀ a, cmp E G f ow a) ∧ wfG G
theorem ent_kind {E : EV} {G : GT} {a : Nat} {e : va_E} (h : ent E G a = some e) : gK G a ≠ 0 ∧ gK G a ≠ 20 ∧ gK G a ≠ 22 ∧ gK G a ≠ 24 := by
  unfold ent at h
  refine ⟨fun z => ?_, fun z => ?_, fun z => ?_, fun z => ?_⟩ <;> rw [z] at h <;> simp at h
theorem hp.wf {E : EV} {G : GT} {H : Heap} (h : hp E G H) : wfG G := by
  obtain ⟨f, ow, -, -, -, h⟩ := h
  exact h
theorem hp.get {E : EV} {G : GT} {H : Heap} {a : Nat} {e : va_E} (h : hp E G H) (h0 : ent E G a = some e) : va_at E.1 CL (a, e) H ∧ E.2.2.1 ≤ a := by
  obtain ⟨f, ow, h1, h2, -, -⟩ := h
  exact h1 a e (h2 a e h0)
theorem cmp_kept {E : EV} {G G' : GT} {f f' : Nat → Option va_E} {ow ow' : Nat → Nat} {a : Nat} (h : cmp E G f ow a) (hK : gK G' a = gK G a) (hL : gL G' a = gL G a) (hf : f' a = f a)
    (hd : ∀ d, gK G d = 0 → ow d = a → (f d).isSome = true → gK G' d = 0 ∧ ow' d = a ∧ f' d = f d) : cmp E G' f' ow' a := by
  unfold cmp
  rw [hK, hL, hf]
  refine ⟨fun z => ?_, fun z => ?_, fun z => ?_⟩
  · obtain ⟨m, d, e1, e2, e3⟩ := h.1 z
    refine ⟨m, d, e1, e2, ?_⟩
    rcases e3 with e3 | ⟨q1, q2, n, g, q3, q4⟩
    · exact Or.inl e3
    · obtain ⟨w1, w2, w3⟩ := hd d q1 q2 (by rw [q3]; rfl)
      exact Or.inr ⟨w1, w2, n, g, by rw [w3]; exact q3, q4⟩
  · obtain ⟨d, a1, a2, e1, q1, q2, e2, e3, e4⟩ := h.2.1 z
    obtain ⟨w1, w2, w3⟩ := hd d q1 q2 (by rw [e4]; rfl)
    exact ⟨d, a1, a2, e1, w1, w2, e2, e3, by rw [w3]; exact e4⟩
  · obtain ⟨d, n, g, e1, q1, q2, e2, e3, e4, e5, e6, e7, e8⟩ := h.2.2 z
    obtain ⟨w1, w2, w3⟩ := hd d q1 q2 (by rw [e7]; rfl)
    exact ⟨d, n, g, e1, w1, w2, e2, e3, e4, e5, e6, by rw [w3]; exact e7, e8⟩
/-- one cell is written -/
theorem hp.put {E : EV} {G G' : GT} {H H1 : Heap} {a : Nat} {e0 e1 : va_E} (h : hp E G H) (h0 : ent E G a = some e0) (h1 : ent E G' a = some e1) (hK : gK G' = gK G) (hL : gL G' = gL G)
    (hx : ∀ x, x ≠ a → ent E G' x = ent E G x) (wf : wfG G') (hat : va_at E.1 CL (a, e1) H1) (hq : ∀ q : Nat, q ≠ a → H1[q]? = H[q]?) : hp E G' H1 := by
  obtain ⟨f, ow, g1, g2, g3, -⟩ := h
  have hk := ent_kind h0
  refine ⟨va_up f a (some e1), ow, fun x e he => ?_, fun x e he => ?_, fun x => ?_, wf⟩
  · by_cases hxa : x = a
    · subst hxa
      rw [show va_up f x (some e1) x = some e1 from if_pos rfl] at he
      cases he
      exact ⟨hat, (g1 x e0 (g2 x e0 h0)).2⟩
    · rw [show va_up f a (some e1) x = f x from if_neg hxa] at he
      obtain ⟨q1, q2⟩ := g1 x e he
      exact ⟨q1.kept (hq x hxa), q2⟩
  · by_cases hxa : x = a
    · subst hxa
      rw [show va_up f x (some e1) x = some e1 from if_pos rfl]
      rw [← he, h1]
    · rw [show va_up f a (some e1) x = f x from if_neg hxa]
      exact g2 x e (by rw [← hx x hxa]; exact he)
  · by_cases hxa : x = a
    · subst hxa
      refine ⟨fun z => ?_, fun z => ?_, fun z => ?_⟩ <;> rw [hK] at z
      · exact absurd z hk.2.1
      · exact absurd z hk.2.2.1
      · exact absurd z hk.2.2.2
    · refine cmp_kept (g3 x) (by rw [hK]) (by rw [hL]) (if_neg hxa) (fun d d1 d2 d3 => ⟨by rw [hK]; exact d1, d2, if_neg (fun z => ?_)⟩)
      rw [z] at d1
      exact hk.1 d1
theorem ent_eq {E : EV} {G G' : GT} {x : Nat} (hK : gK G' x = gK G x) (hI : ∀ k, gI G' k x = gI G k x) (hP : ∀ k, gP G' k x = gP G k x) (hA : ∀ j, gA G' x j = gA G x j)
    (hR : (gK G x = 15 ∨ 100 ≤ gK G x) → ∀ k j, gR G' k j = gR G k j) : ent E G' x = ent E G x := by
  have hfl : ∀ c, fl G' c x = fl G c x := fun c => by
    unfold fl
    refine List.map_congr_left (fun j _ => ?_)
    unfold fv
    rw [hI, hP]
  unfold ent
  rw [hK]
  by_cases c1 : 3 ≤ gK G x ∧ gK G x ≤ 14
  · rw [if_pos c1, if_pos c1, hfl]
  · rw [if_neg c1, if_neg c1]
    by_cases c2 : gK G x = 15
    · rw [if_pos c2, if_pos c2]
      have : ml G' x = ml G x := by
        unfold ml
        refine List.map_congr_left (fun j _ => ?_)
        unfold mv
        rw [hP, hR (Or.inl c2)]
      rw [this]
    · rw [if_neg c2, if_neg c2]
      by_cases c5 : 100 ≤ gK G x ∧ gK G x < 172
      · have e : (fun j => i32 (gR G' (gK G x - 100) j)) = fun j => i32 (gR G (gK G x - 100) j) := funext fun j => by rw [hR (Or.inr c5.1)]
        have ea : (fun j => i32 (gA G' x j)) = fun j => i32 (gA G x j) := funext fun j => by rw [hA]
        have el : (fun j => Int64.ofInt (gA G' x j)) = fun j => Int64.ofInt (gA G x j) := funext fun j => by rw [hA]
        rw [e, ea, el]
      · have ea : (fun j => i32 (gA G' x j)) = fun j => i32 (gA G x j) := funext fun j => by rw [hA]
        have el : (fun j => Int64.ofInt (gA G' x j)) = fun j => Int64.ofInt (gA G x j) := funext fun j => by rw [hA]
        rw [ea, el, if_neg c5, if_neg c5]
