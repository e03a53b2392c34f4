/-! words of every method: the good words of the law's tables -/
def xt4 : List Cond := ([⟨"java/lang/AbstractStringBuilder", "ensureCapacityInternal", "(I)V"⟩, ⟨"java/lang/AbstractStringBuilder", "newCapacity", "(I)I"⟩, ⟨"java/lang/AbstractStringBuilder", "putStringAt", "(ILjava/lang/String;)V"⟩, ⟨"java/lang/AbstractStringBuilder", "inflateIfNeededFor", "(Ljava/lang/String;)V"⟩] : List MethodName).map (fun y => Cond.selects "java/lang/StringBuilder" y y)
def AW : List Cond := (lw_tbl ++ xt4).filter goodWord
theorem aw_i (k : Nat) {w : Cond} (h : lw_tbl[k]? = some w) (hg : goodWord w = true) : w ∈ AW := List.mem_filter.mpr ⟨List.mem_append_left _ (List.mem_of_getElem? h), hg⟩
theorem aw_x (k : Nat) {w : Cond} (h : xt4[k]? = some w) (hg : goodWord w = true) : w ∈ AW := List.mem_filter.mpr ⟨List.mem_append_right _ (List.mem_of_getElem? h), hg⟩
theorem aw_good {w : Cond} (h : w ∈ AW) : (w.onTables && w.keeps) = true ∨ ∃ ty, w = .arrayClass ty := good_of_word (List.mem_filter.mp h).2
theorem aw_in {c : Cond} (h : c ∈ AW) : GoodIn AW (c :: AW) := fun w hw => by
  rcases List.mem_cons.mp hw with rfl | h2
  · exact ⟨h, aw_good h⟩
  · exact ⟨h2, aw_good h2⟩
/-! whole numbers behind the machine's ints -/
def i32 (x : Int) : Int32 := Int32.ofInt x
abbrev InR (x : Int) : Prop := -2147483648 ≤ x ∧ x ≤ 2147483647
theorem i32_toInt {x : Int} (h : InR x) : (i32 x).toInt = x := by
  have h1 := h.1
  have h2 := h.2
  exact Int32.toInt_ofInt_of_le (by omega) (by omega)
theorem i32_self (q : Int32) : i32 q.toInt = q := Int32.ofInt_toInt q
theorem inR_toInt (q : Int32) : InR q.toInt := ⟨Int32.le_toInt q, by have := Int32.toInt_lt q; omega⟩
theorem i32_of (q : Int32) : ∃ x : Int, InR x ∧ q = i32 x := ⟨q.toInt, inR_toInt q, (i32_self q).symm⟩
theorem i32_add (x y : Int) : i32 x + i32 y = i32 (x + y) := (Int32.ofInt_add x y).symm
theorem i32_sub (x y : Int) : i32 x - i32 y = i32 (x - y) := (Int32.ofInt_sub x y).symm
theorem i32_mul (x y : Int) : i32 x * i32 y = i32 (x * y) := (Int32.ofInt_mul x y).symm
theorem i32_inj {x y : Int} (hx : InR x) (hy : InR y) (h : i32 x = i32 y) : x = y := by
  rw [← i32_toInt hx, ← i32_toInt hy, h]
theorem i32_eq {x y : Int} (hx : InR x) (hy : InR y) : i32 x = i32 y ↔ x = y := ⟨i32_inj hx hy, fun h => by rw [h]⟩
theorem i32_lt {x y : Int} (hx : InR x) (hy : InR y) : i32 x < i32 y ↔ x < y := by
  rw [Int32.lt_iff_toInt_lt, i32_toInt hx, i32_toInt hy]
theorem i32_le {x y : Int} (hx : InR x) (hy : InR y) : i32 x ≤ i32 y ↔ x ≤ y := by
  rw [Int32.le_iff_toInt_le, i32_toInt hx, i32_toInt hy]
theorem i32_0 : (0 : Int32) = i32 0 := rfl
theorem i32_nI (n : Nat) : nI n = i32 (n : Int) := by
  unfold nI i32
  rfl
theorem i32_idx {x : Int} (hx : InR x) {n : Nat} (h0 : 0 ≤ x) (h : x < n) : vp_in (i32 x) n := vp_in_iff.mpr (by rw [i32_toInt hx]; exact ⟨h0, h⟩)
theorem i32_clamp {x : Int} (hx : InR x) (h0 : 0 ≤ x) : (i32 x).toNatClampNeg = x.toNat := by
  show (i32 x).toInt.toNat = x.toNat
  rw [i32_toInt hx]
theorem i32_div {x y : Int} (hx : InR x) (hy : InR y) (h0 : 0 ≤ x) (hp : 0 < y) : i32 x / i32 y = i32 (x / y) := by
  obtain ⟨a, rfl⟩ := Int.eq_ofNat_of_zero_le h0
  obtain ⟨b, rfl⟩ := Int.eq_ofNat_of_zero_le (Int.le_of_lt hp)
  have ha := hx.2
  have hb := hy.2
  rw [← i32_nI, ← i32_nI, pk_div (by omega) (by omega) (by omega), i32_nI]
  rfl
theorem i32_rem {x y : Int} (hx : InR x) (hy : InR y) (h0 : 0 ≤ x) (hp : 0 < y) : i32 x - i32 x / i32 y * i32 y = i32 (x % y) := by
  obtain ⟨a, rfl⟩ := Int.eq_ofNat_of_zero_le h0
  obtain ⟨b, rfl⟩ := Int.eq_ofNat_of_zero_le (Int.le_of_lt hp)
  have ha := hx.2
  have hb := hy.2
  rw [← i32_nI, ← i32_nI, pk_rem (by omega) (by omega) (by omega), i32_nI]
  rfl
/-- 'and', 'or' of numbers, kept closed -/
def iand (x y : Int) : Int := (i32 x &&& i32 y).toInt
def ior (x y : Int) : Int := (i32 x ||| i32 y).toInt
theorem i32_and (x y : Int) : i32 x &&& i32 y = i32 (iand x y) := (i32_self _).symm
theorem i32_or (x y : Int) : i32 x ||| i32 y = i32 (ior x y) := (i32_self _).symm
theorem iand_in (x y : Int) : InR (iand x y) := inR_toInt _
theorem ior_in (x y : Int) : InR (ior x y) := inR_toInt _
/-! locals by their places: what each holds, or nothing that is known -/
def XL (ls : Array Slot) (nL : Nat) (L : List (Option Value)) : Prop := ls.size = nL ∧ lv_wf ls ∧ ∀ (i : Nat) (v : Value), L[i]? = some (some v) → ls[i]? = some (.val v) ∧ v.category = 1
theorem XL.get {ls : Array Slot} {nL : Nat} {L : List (Option Value)} (h : XL ls nL L) {i : Nat} {v : Value} (hi : L[i]? = some (some v)) : ls[i]? = some (.val v) := (h.2.2 i v hi).1
def asc : Nat → List (Option Value) → List (Nat × Value)
  | _, [] => []
  | k, none :: L => asc (k + 1) L
  | k, some v :: L => (k, v) :: asc (k + 1) L
theorem asc_mem : ∀ (L : List (Option Value)) (k i : Nat) (v : Value), (i, v) ∈ asc k L ↔ ∃ j, i = k + j ∧ L[j]? = some (some v)
  | [], k, i, v => by simp [asc]
  | none :: L, k, i, v => by
    rw [asc, asc_mem L (k + 1) i v]
    constructor
    · rintro ⟨j, rfl, h⟩
      exact ⟨j + 1, by omega, by simpa using h⟩
    · rintro ⟨j, rfl, h⟩
      cases j with
      | zero => simp at h
      | succ j => exact ⟨j, by omega, by simpa using h⟩
  | some w :: L, k, i, v => by
    rw [asc, List.mem_cons, asc_mem L (k + 1) i v]
    constructor
    · rintro (h | ⟨j, rfl, h⟩)
      · cases h
        exact ⟨0, rfl, rfl⟩
      · exact ⟨j + 1, by omega, by simpa using h⟩
    · rintro ⟨j, rfl, h⟩
      cases j with
      | zero =>
        left
        simp at h
        rw [h]; rfl
      | succ j => exact Or.inr ⟨j, by omega, by simpa using h⟩
theorem XL.has {ls : Array Slot} {nL : Nat} {L : List (Option Value)} (h : XL ls nL L) : lv_has ls nL (asc 0 L) := by
  refine ⟨h.1, h.2.1, fun q hq => ?_⟩
  obtain ⟨i, v⟩ := q
  obtain ⟨j, e, hj⟩ := (asc_mem L 0 i v).mp hq
  rw [Nat.zero_add] at e
  subst e
  exact h.get hj
theorem XL.store {ls ls' : Array Slot} {nL : Nat} {L L' : List (Option Value)} (h : XL ls nL L) {i : Nat} {v : Value} (hc : v.category = 1)
    (h' : lv_has ls' nL ((i, v) :: (asc 0 L).filter (fun q => !(q.1 == i) && !(q.1 + 1 == i && q.2.category == 2)))) (hL : L.set i (some v) = L') : XL ls' nL L' := by
  subst hL
  refine ⟨h'.1, h'.2.1, fun j w hj => ?_⟩
  by_cases hji : i = j
  · subst hji
    have hl : i < L.length := by
      have := (List.getElem?_eq_some_iff.mp hj).1
      rwa [List.length_set] at this
    rw [List.getElem?_set_self hl] at hj
    cases hj
    exact ⟨h'.2.2 _ List.mem_cons_self, hc⟩
  · rw [List.getElem?_set_ne hji] at hj
    have hw := (h.2.2 j w hj).2
    refine ⟨h'.2.2 (j, w) (List.mem_cons_of_mem _ (List.mem_filter.mpr ⟨(asc_mem L 0 j w).mpr ⟨j, by omega, hj⟩, ?_⟩)), hw⟩
    have h2 : ¬ j = i := fun z => hji z.symm
    simp [h2, hw]
theorem XL.args {vs : List Value} {ls : Array Slot} {nL : Nat} (h : lv_has ls nL (lv_args 0 vs)) (hc : ∀ v ∈ vs, v.category = 1) (L : List (Option Value)) (hL : vs.map some ++ List.replicate (nL - vs.length) none = L) : XL ls nL L := by
  subst hL
  have key : ∀ (vs : List Value) (k : Nat), (∀ v ∈ vs, v.category = 1) → ∀ (j : Nat) (v : Value), vs[j]? = some v → (k + j, v) ∈ lv_args k vs := by
    intro vs
    induction vs with
    | nil => intro k _ j v hj; simp at hj
    | cons w vs ih =>
      intro k hk j v hj
      have hw := hk w List.mem_cons_self
      cases j with
      | zero =>
        simp at hj
        subst hj
        simp [lv_args, hw]
      | succ j =>
        have := ih (k + 1) (fun v hv => hk v (List.mem_cons_of_mem _ hv)) j v (by simpa using hj)
        rw [show k + (j + 1) = k + 1 + j by omega]
        simp [lv_args, hw]
        exact Or.inr this
  refine ⟨h.1, h.2.1, fun i v hi => ?_⟩
  rw [List.getElem?_append] at hi
  split at hi
  · rw [List.getElem?_map] at hi
    cases hv : vs[i]? with
    | none => rw [hv] at hi; cases hi
    | some w =>
      rw [hv] at hi
      cases hi
      have := key vs 0 hc i v hv
      rw [Nat.zero_add] at this
      exact ⟨h.2.2 (i, v) this, hc v (List.mem_of_getElem? hv)⟩
  · rw [List.getElem?_replicate] at hi
    split at hi <;> cases hi
