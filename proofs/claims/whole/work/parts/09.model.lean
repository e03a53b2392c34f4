/-! the reference's object and rows: RM; they hold R in the picture wR G R -/
def ra (G : GT) (m k : Nat) : Nat := (gP G (1500 + k) m).getD 0
def RM (G : GT) (m : Nat) : Prop := gK G m = 15 ∧ ∀ k, k < 72 → mS k = false → gP G (1500 + k) m = some (ra G m k) ∧ gK G (ra G m k) = 100 + k
theorem ml_get {G : GT} {a j : Nat} (h : j < 72) : (ml G a)[j]? = some (mv G a j) := by
  unfold ml
  rw [List.getElem?_map, List.getElem?_range h]
  rfl
theorem ml_len {G : GT} {a : Nat} : (ml G a).length = 72 := by
  unfold ml
  rw [List.length_map, List.length_range]
theorem ent_model {E : EV} {G : GT} {a : Nat} (h : gK G a = 15) : ent E G a = some (.inr (15, ml G a)) := by
  unfold ent
  rw [if_neg (by omega), if_pos h]
def rcl (E : EV) (k : Nat) : ClassId := if mZ k then E.2.1 1 else E.2.1 0
theorem ent_row {E : EV} {G : GT} {a k : Nat} (h : gK G a = 100 + k) (hk : k < 72) : ent E G a = some (.inl (rcl E k, mN k, .inl (fun j => i32 (gR G k j)))) := by
  unfold ent
  rw [if_neg (by omega), if_neg (by omega), if_neg (by omega), if_neg (by omega), if_pos (by omega), h, Nat.add_sub_cancel_left]
  rfl
theorem wf_wR {G : GT} {R : Nat → Nat → Int} {k j : Nat} {v : Int} (h : wfG (wR G R)) (hv : InR v) (hz : mZ k = true → v = 0 ∨ v = 1) : wfG (wR G (u2 R k j v)) := by
  obtain ⟨w1, w2, w3, w4, w5, w6, w7⟩ := h
  refine ⟨w1, w2, fun k' a' => ?_, w4, fun k' a' hk => ?_, w6, w7⟩
  · show InR (u2 R k j v k' a')
    unfold u2
    split
    · exact hv
    · exact w3 k' a'
  · show u2 R k j v k' a' = 0 ∨ u2 R k j v k' a' = 1
    unfold u2
    split
    · rename_i z
      exact hz (z.1 ▸ hk)
    · exact w5 k' a' hk
theorem ml_other {G : GT} {R : Nat → Nat → Int} {k j a : Nat} {v : Int} (h : mS k = false) : ml (wR G (u2 R k j v)) a = ml (wR G R) a := by
  unfold ml
  refine List.map_congr_left (fun i _ => ?_)
  unfold mv
  by_cases hi : mS i = true
  · have hne : i ≠ k := fun z => by rw [z, h] at hi; cases hi
    rw [if_pos hi, if_pos hi]
    show Value.int (i32 (u2 R k j v i 0)) = Value.int (i32 (R i 0))
    rw [u2_k hne]
  · rw [if_neg hi, if_neg hi]
    rfl
/-- another cell of the reference's is as it was -/
theorem ent_wR {E : EV} {G : GT} {R : Nat → Nat → Int} {k j x : Nat} {v : Int} (h15 : gK G x = 15 → mS k = false) (hx : gK G x ≠ 100 + k) : ent E (wR G (u2 R k j v)) x = ent E (wR G R) x := by
  by_cases c2 : gK G x = 15
  · rw [ent_model (G := wR G (u2 R k j v)) c2, ent_model (G := wR G R) c2, ml_other (h15 c2)]
  · by_cases c5 : 100 ≤ gK G x ∧ gK G x < 172
    · have hk : gK G x = 100 + (gK G x - 100) := by omega
      rw [ent_row (G := wR G (u2 R k j v)) (k := gK G x - 100) hk (by omega), ent_row (G := wR G R) (k := gK G x - 100) hk (by omega)]
      have e : (fun i => i32 (gR (wR G (u2 R k j v)) (gK G x - 100) i)) = fun i => i32 (gR (wR G R) (gK G x - 100) i) := funext fun i => by
        show i32 (u2 R k j v (gK G x - 100) i) = i32 (R (gK G x - 100) i)
        rw [u2_k (by omega)]
      rw [e]
    · unfold ent
      by_cases c1 : 3 ≤ gK G x ∧ gK G x ≤ 14
      · rw [if_pos (show 3 ≤ gK (wR G (u2 R k j v)) x ∧ gK (wR G (u2 R k j v)) x ≤ 14 from c1), if_pos (show 3 ≤ gK (wR G R) x ∧ gK (wR G R) x ≤ 14 from c1)]
        rfl
      · rw [if_neg (show ¬ (3 ≤ gK (wR G (u2 R k j v)) x ∧ gK (wR G (u2 R k j v)) x ≤ 14) from c1), if_neg (show ¬ (3 ≤ gK (wR G R) x ∧ gK (wR G R) x ≤ 14) from c1)]
        rw [if_neg (show ¬ gK (wR G (u2 R k j v)) x = 15 from c2), if_neg (show ¬ gK (wR G R) x = 15 from c2)]
        rw [if_neg (show ¬ (100 ≤ gK (wR G (u2 R k j v)) x ∧ gK (wR G (u2 R k j v)) x < 172) from c5), if_neg (show ¬ (100 ≤ gK (wR G R) x ∧ gK (wR G R) x < 172) from c5)]
        rfl
theorem hp_mput {E : EV} {G : GT} {R : Nat → Nat → Int} {H H1 : Heap} {k a : Nat} {v : Int} (h : hp E (wR G R) H) (hm : gK G a = 15) (hs : mS k = true) (hv : InR v) (hz : mZ k = true → v = 0 ∨ v = 1)
    (hK : ∀ x, gK G x ≠ 100 + k) (hat : va_at E.1 CL (a, .inr (15, (ml (wR G R) a).set k (.int (i32 v)))) H1) (hq : ∀ q : Nat, q ≠ a → H1[q]? = H[q]?) : hp E (wR G (u2 R k 0 v)) H1 := by
  have e : (ml (wR G R) a).set k (.int (i32 v)) = ml (wR G (u2 R k 0 v)) a := by
    refine List.ext_getElem? (fun i => ?_)
    by_cases hi : i < 72
    · by_cases hij : i = k
      · subst hij
        rw [List.getElem?_set_self (by rw [ml_len]; exact hi), ml_get hi]
        unfold mv
        rw [hs]
        show _ = some (Value.int (i32 (u2 R i 0 v i 0)))
        rw [u2_s]
      · rw [List.getElem?_set_ne (fun z => hij z.symm), ml_get hi, ml_get hi]
        unfold mv
        show some (if _ then Value.int (i32 (R i 0)) else _) = some (if _ then Value.int (i32 (u2 R k 0 v i 0)) else _)
        rw [u2_k hij]
        rfl
    · rw [List.getElem?_eq_none (by rw [List.length_set, ml_len]; omega), List.getElem?_eq_none (by rw [ml_len]; omega)]
  rw [e] at hat
  have u := h.wf.2.2.2.2.2.1
  refine h.put (ent_model hm) (ent_model (G := wR G (u2 R k 0 v)) hm) rfl rfl (fun x hx => ent_wR (fun z => ?_) (hK x)) (wf_wR h.wf hv hz) hat hq
  exact absurd (u x a (z.trans hm.symm) (Or.inl z)) hx
theorem hp_mst {E : EV} {G : GT} {R : Nat → Nat → Int} {H H1 : Heap} {k a j : Nat} {v : Int} (h : hp E (wR G R) H) (hm : gK G a = 100 + k) (hk : k < 72) (hs : mS k = false) (hv : InR v) (hz : mZ k = true → v = 0 ∨ v = 1)
    (hat : va_at E.1 CL (a, .inl (rcl E k, mN k, .inl (fun i => i32 (u2 R k j v k i)))) H1) (hq : ∀ q : Nat, q ≠ a → H1[q]? = H[q]?) : hp E (wR G (u2 R k j v)) H1 := by
  have u := h.wf.2.2.2.2.2.1
  refine h.put (ent_row hm hk) (ent_row (G := wR G (u2 R k j v)) hm hk) rfl rfl (fun x hx => ent_wR (fun _ => hs) (fun z => ?_)) (wf_wR h.wf hv hz) hat hq
  exact hx (u x a (z.trans hm.symm) (Or.inr (by show 100 ≤ gK G x; omega)))
section XM
variable {E : EV} {p : Program} {l : Launch} {e : Env} {R0 : Room} {s : State} {m : MethodId} {args : Array Value} {below : List Frame} {meth : Method} {c : Code} {cc : ByteArray} {nL mc ms : Nat} {own : String} {ret : Option FieldType} {Q : State → Prop} {G : GT} {R : Nat → Nat → Int} {kc ks pc : Nat} {L : List (Option Value)} {st : List Value} {o : Nat}
theorem x_mget (n k : Nat) {idx : Nat} (C : CX E p R0 s m args meth c cc nL own mc ms ret) (F : FR own idx 15 k) (d : decode cc pc = .ok (.getfield idx, 3)) (hn : pc + 3 = n) (hs : mS k = true) (hM : RM G o)
    (kk : XW E p l e R0 s m args below meth c nL mc ms Q (wR G R) kc ks n L (.int (i32 (R k 0)) :: st)) : XW E p l e R0 s m args below meth c nL mc ms Q (wR G R) kc ks pc L (.ref o :: st) := by
  subst hn
  intro H locs cells slots ls h1 h2 h3 h4 h5
  have hj : k < 72 := by obtain ⟨_, _, N, _, _, hj, e, _⟩ := F; rw [e] at hj; exact hj
  refine w_getf C F (h1.get (ent_model (G := wR G R) hM.1)).1 (ml_get hj) d ?_
  unfold mv
  rw [if_pos hs]
  exact kk H locs cells slots ls h1 h2 h3 h4 h5
theorem x_mrow (n k : Nat) {idx : Nat} (C : CX E p R0 s m args meth c cc nL own mc ms ret) (F : FR own idx 15 k) (d : decode cc pc = .ok (.getfield idx, 3)) (hn : pc + 3 = n) (hs : mS k = false) (hM : RM G o)
    (kk : XW E p l e R0 s m args below meth c nL mc ms Q (wR G R) kc ks n L (.ref (ra G o k) :: st)) : XW E p l e R0 s m args below meth c nL mc ms Q (wR G R) kc ks pc L (.ref o :: st) := by
  subst hn
  intro H locs cells slots ls h1 h2 h3 h4 h5
  have hj : k < 72 := by obtain ⟨_, _, N, _, _, hj, e, _⟩ := F; rw [e] at hj; exact hj
  refine w_getf C F (h1.get (ent_model (G := wR G R) hM.1)).1 (ml_get hj) d ?_
  have e : mv (wR G R) o k = .ref (ra G o k) := by
    unfold mv
    rw [hs]
    show va_rf (gP G (1500 + k) o) = _
    rw [(hM.2 k hj hs).1]
    rfl
  rw [e]
  exact kk H locs cells slots ls h1 h2 h3 h4 h5
theorem x_mput (n k : Nat) {idx tk : Nat} {v : Int} (C : CX E p R0 s m args meth c cc nL own mc ms ret) (F : FW own idx 15 k tk false) (d : decode cc pc = .ok (.putfield idx, 3)) (hn : pc + 3 = n) (hs : mS k = true) (ht : (if mZ k then 1 else 0) = tk) (hM : RM G o) (hv : InR v) (hz : mZ k = true → v = 0 ∨ v = 1)
    (kk : XW E p l e R0 s m args below meth c nL mc ms Q (wR G (u2 R k 0 v)) kc ks n L st) : XW E p l e R0 s m args below meth c nL mc ms Q (wR G R) kc ks pc L (.int (i32 v) :: .ref o :: st) := by
  subst hn
  intro H locs cells slots ls h1 h2 h3 h4 h5
  have hj : k < 72 := by obtain ⟨_, _, N, _, _, _, hj, e, _⟩ := F; rw [e] at hj; exact hj
  obtain ⟨g1, g2⟩ := h1.get (ent_model (E := E) (G := wR G R) hM.1)
  have hnk : ∀ x, gK G x ≠ 100 + k := fun x z => by
    have hz' : gK (wR G R) x = 100 + k := z
    have := h1.wf.2.2.2.2.2.2 x
    rw [hz', Nat.add_sub_cancel_left, hs] at this
    rcases this with q | q | q | q | q | q | q | q
    · omega
    · omega
    · omega
    · omega
    · omega
    · omega
    · omega
    · cases q.2.2
  refine w_putf C F g1 (by rw [ml_len]; exact hj) (fun ty h => ?_) d (fun H1 sl a1 a2 a3 => kk H1 _ cells slots ls (hp_mput h1 hM.1 hs hv hz hnk a1 a3) (h2.put a2 a3 g2) h3 h4 h5)
  rw [← ht] at h
  by_cases q : mZ k = true
  · rw [if_pos q] at h
    exact fits_bool (hz q) ty h
  · rw [if_neg q] at h
    exact fits_int ty h
theorem w_ldI {H : Heap} {locs : List Loc} {cells slots : Nat} {ls : Array Slot} {N a : Nat} {f : Nat → Int32} {x : Int} (C : CX E p R0 s m args meth c cc nL own mc ms ret) (h : va_at E.1 CL (a, .inl (E.2.1 0, N, .inl f)) H) (hx : 0 ≤ x ∧ x < N ∧ N < 2147483648) (d : decode cc pc = .ok (.iaload, 1))
    (k : W p l e R0 s m args below meth c H locs cells slots Q (F0 m (pc + 1) ls (.int (f x.toNat) :: st))) : W p l e R0 s m args below meth c H locs cells slots Q (F0 m pc ls (.int (i32 x) :: .ref a :: st)) := by
  have hr : InR x := ⟨by omega, by omega⟩
  have hP : va_P E.1 CL [(a, .inl (E.2.1 0, N, .inl f))] H := fun k q hq => by
    cases k with
    | zero => cases hq; exact h
    | succ k => simp at hq
  exact va_iald C.1 C.2.1 C.2.2.2.2.2.1 hP 0 0 rfl rfl (i32_idx hr hx.1 hx.2.1) d (by rw [i32_clamp hr hx.1]; exact k)
theorem w_ldZ {H : Heap} {locs : List Loc} {cells slots : Nat} {ls : Array Slot} {N a : Nat} {f : Nat → Int32} {x : Int} (C : CX E p R0 s m args meth c cc nL own mc ms ret) (h : va_at E.1 CL (a, .inl (E.2.1 1, N, .inl f)) H) (hx : 0 ≤ x ∧ x < N ∧ N < 2147483648) (d : decode cc pc = .ok (.baload, 1))
    (k : W p l e R0 s m args below meth c H locs cells slots Q (F0 m (pc + 1) ls (.int (f x.toNat) :: st))) : W p l e R0 s m args below meth c H locs cells slots Q (F0 m pc ls (.int (i32 x) :: .ref a :: st)) := by
  have hr : InR x := ⟨by omega, by omega⟩
  have hP : va_P E.1 CL [(a, .inl (E.2.1 1, N, .inl f))] H := fun k q hq => by
    cases k with
    | zero => cases hq; exact h
    | succ k => simp at hq
  exact va_zald C.1 C.2.1 C.2.2.2.2.2.1 hP 0 1 rfl rfl (i32_idx hr hx.1 hx.2.1) d (by rw [i32_clamp hr hx.1]; exact k)
theorem w_stI {H : Heap} {locs : List Loc} {cells slots : Nat} {ls : Array Slot} {N a : Nat} {f : Nat → Int32} {x : Int} {v : Int32} (C : CX E p R0 s m args meth c cc nL own mc ms ret) (h : va_at E.1 CL (a, .inl (E.2.1 0, N, .inl f)) H) (hx : 0 ≤ x ∧ x < N ∧ N < 2147483648) (d : decode cc pc = .ok (.iastore, 1))
    (kk : ∀ (H1 : Heap) (sl : Nat), va_at E.1 CL (a, .inl (E.2.1 0, N, .inl (fun i => if i = x.toNat then v else f i))) H1 → H1.size = H.size → (∀ q : Nat, q ≠ a → H1[q]? = H[q]?) → W p l e R0 s m args below meth c H1 (locs ++ [⟨a, sl⟩]) cells slots Q (F0 m (pc + 1) ls st)) : W p l e R0 s m args below meth c H locs cells slots Q (F0 m pc ls (.int v :: .int (i32 x) :: .ref a :: st)) := by
  have hr : InR x := ⟨by omega, by omega⟩
  refine W.iast C.1 C.2.1 h ((C.2.2.2.2.2.1.2 0 _ rfl).1 N (fun j => .int (f j))) (fun q => by cases q) (by show ¬ (i32 x < 0 ∨ (arrV _ _ _).slots.size ≤ _); rw [arrV_size]; exact i32_idx hr hx.1 hx.2.1) rfl rfl d fun H1 e1 z oq => ?_
  refine kk H1 _ ?_ z oq
  show H1[a]? = some (vp_cell _ _)
  rw [e1]
  rw [vp_cell_i, vp_cell_i, arrV_store]
  congr 2
  funext q
  rw [i32_clamp hr hx.1]
  by_cases hq : q = x.toNat
  · subst hq
    simp [updV]
  · simp [updV, hq]
theorem w_stZ {H : Heap} {locs : List Loc} {cells slots : Nat} {ls : Array Slot} {N a : Nat} {f : Nat → Int32} {x v : Int} (C : CX E p R0 s m args meth c cc nL own mc ms ret) (h : va_at E.1 CL (a, .inl (E.2.1 1, N, .inl f)) H) (hx : 0 ≤ x ∧ x < N ∧ N < 2147483648) (hv : v = 0 ∨ v = 1) (d : decode cc pc = .ok (.bastore, 1))
    (kk : ∀ (H1 : Heap) (sl : Nat), va_at E.1 CL (a, .inl (E.2.1 1, N, .inl (fun i => if i = x.toNat then i32 v else f i))) H1 → H1.size = H.size → (∀ q : Nat, q ≠ a → H1[q]? = H[q]?) → W p l e R0 s m args below meth c H1 (locs ++ [⟨a, sl⟩]) cells slots Q (F0 m (pc + 1) ls st)) : W p l e R0 s m args below meth c H locs cells slots Q (F0 m pc ls (.int (i32 v) :: .int (i32 x) :: .ref a :: st)) := by
  have hr : InR x := ⟨by omega, by omega⟩
  refine W.zast C.1 C.2.1 h ((C.2.2.2.2.2.1.2 1 _ rfl).1 N (fun j => .int (f j))) (fun q => by cases q) (by show ¬ (i32 x < 0 ∨ (arrV _ _ _).slots.size ≤ _); rw [arrV_size]; exact i32_idx hr hx.1 hx.2.1) rfl rfl d fun H1 e1 z oq => ?_
  refine kk H1 _ ?_ z oq
  show H1[a]? = some (vp_cell _ _)
  rw [e1]
  rw [vp_cell_i, vp_cell_i, arrV_store]
  congr 2
  funext q
  rw [i32_clamp hr hx.1]
  have hn : narrow .boolean (.int (i32 v)) = .int (i32 v) := by rcases hv with rfl | rfl <;> rfl
  by_cases hq : q = x.toNat
  · subst hq
    simp [updV, hn]
  · simp [updV, hq]
theorem mN_small (k : Nat) : mN k < 2147483648 := by
  have h : ∀ x ∈ mtab, x < 2147483648 := fun x hx => Nat.lt_of_lt_of_le (List.all_eq_true.mp (show mtab.all (fun x => Nat.blt x 3000) = true by decide) x hx |> Nat.le_of_ble_eq_true) (by omega)
  unfold mN
  rw [List.getD_eq_getElem?_getD]
  cases hk : mtab[k]? with
  | none => simp
  | some x => exact h x (List.mem_of_getElem? hk)
theorem x_mldI (n k : Nat) {x : Int} (C : CX E p R0 s m args meth c cc nL own mc ms ret) (d : decode cc pc = .ok (.iaload, 1)) (hn : pc + 1 = n) (hs : (Nat.blt k 72 && !mS k && !mZ k) = true) (hM : RM G o) (hx : 0 ≤ x ∧ x < mN k)
    (kk : XW E p l e R0 s m args below meth c nL mc ms Q (wR G R) kc ks n L (.int (i32 (R k x.toNat)) :: st)) : XW E p l e R0 s m args below meth c nL mc ms Q (wR G R) kc ks pc L (.int (i32 x) :: .ref (ra G o k) :: st) := by
  subst hn
  intro H locs cells slots ls h1 h2 h3 h4 h5
  simp only [Bool.and_eq_true, Bool.not_eq_true'] at hs
  have hj : k < 72 := Nat.le_of_ble_eq_true hs.1.1
  have g := (h1.get (ent_row (E := E) (G := wR G R) (hM.2 k hj hs.1.2).2 hj)).1
  rw [show rcl E k = E.2.1 0 from if_neg (by rw [hs.2]; decide)] at g
  exact w_ldI C g ⟨hx.1, hx.2, mN_small k⟩ d (kk H locs cells slots ls h1 h2 h3 h4 h5)
theorem x_mldZ (n k : Nat) {x : Int} (C : CX E p R0 s m args meth c cc nL own mc ms ret) (d : decode cc pc = .ok (.baload, 1)) (hn : pc + 1 = n) (hs : (Nat.blt k 72 && !mS k && mZ k) = true) (hM : RM G o) (hx : 0 ≤ x ∧ x < mN k)
    (kk : XW E p l e R0 s m args below meth c nL mc ms Q (wR G R) kc ks n L (.int (i32 (R k x.toNat)) :: st)) : XW E p l e R0 s m args below meth c nL mc ms Q (wR G R) kc ks pc L (.int (i32 x) :: .ref (ra G o k) :: st) := by
  subst hn
  intro H locs cells slots ls h1 h2 h3 h4 h5
  simp only [Bool.and_eq_true, Bool.not_eq_true'] at hs
  have hj : k < 72 := Nat.le_of_ble_eq_true hs.1.1
  have g := (h1.get (ent_row (E := E) (G := wR G R) (hM.2 k hj hs.1.2).2 hj)).1
  rw [show rcl E k = E.2.1 1 from if_pos hs.2] at g
  exact w_ldZ C g ⟨hx.1, hx.2, mN_small k⟩ d (kk H locs cells slots ls h1 h2 h3 h4 h5)
theorem x_mstI (n k : Nat) {x v : Int} (C : CX E p R0 s m args meth c cc nL own mc ms ret) (d : decode cc pc = .ok (.iastore, 1)) (hn : pc + 1 = n) (hs : (Nat.blt k 72 && !mS k && !mZ k) = true) (hM : RM G o) (hx : 0 ≤ x ∧ x < mN k) (hv : InR v)
    (kk : XW E p l e R0 s m args below meth c nL mc ms Q (wR G (u2 R k x.toNat v)) kc ks n L st) : XW E p l e R0 s m args below meth c nL mc ms Q (wR G R) kc ks pc L (.int (i32 v) :: .int (i32 x) :: .ref (ra G o k) :: st) := by
  subst hn
  intro H locs cells slots ls h1 h2 h3 h4 h5
  simp only [Bool.and_eq_true, Bool.not_eq_true'] at hs
  have hj : k < 72 := Nat.le_of_ble_eq_true hs.1.1
  have hm := (hM.2 k hj hs.1.2).2
  obtain ⟨g, g2⟩ := h1.get (ent_row (E := E) (G := wR G R) hm hj)
  have er : rcl E k = E.2.1 0 := if_neg (by rw [hs.2]; decide)
  rw [er] at g
  refine w_stI C g ⟨hx.1, hx.2, mN_small k⟩ d (fun H1 sl a1 a2 a3 => kk H1 _ cells slots ls (hp_mst h1 hm hj hs.1.2 hv (fun z => by rw [hs.2] at z; cases z) ?_ a3) (h2.put a2 a3 g2) h3 h4 h5)
  rw [er]
  have ef : (fun i => i32 (u2 R k x.toNat v k i)) = fun i => if i = x.toNat then i32 v else i32 (R k i) := funext fun i => by
    by_cases q : i = x.toNat
    · rw [if_pos q, q, u2_s]
    · rw [if_neg q, u2_a q]
  rw [ef]
  exact a1
theorem x_mstZ (n k : Nat) {x v : Int} (C : CX E p R0 s m args meth c cc nL own mc ms ret) (d : decode cc pc = .ok (.bastore, 1)) (hn : pc + 1 = n) (hs : (Nat.blt k 72 && !mS k && mZ k) = true) (hM : RM G o) (hx : 0 ≤ x ∧ x < mN k) (hv : v = 0 ∨ v = 1)
    (kk : XW E p l e R0 s m args below meth c nL mc ms Q (wR G (u2 R k x.toNat v)) kc ks n L st) : XW E p l e R0 s m args below meth c nL mc ms Q (wR G R) kc ks pc L (.int (i32 v) :: .int (i32 x) :: .ref (ra G o k) :: st) := by
  subst hn
  intro H locs cells slots ls h1 h2 h3 h4 h5
  simp only [Bool.and_eq_true, Bool.not_eq_true'] at hs
  have hj : k < 72 := Nat.le_of_ble_eq_true hs.1.1
  have hm := (hM.2 k hj hs.1.2).2
  obtain ⟨g, g2⟩ := h1.get (ent_row (E := E) (G := wR G R) hm hj)
  have er : rcl E k = E.2.1 1 := if_pos hs.2
  rw [er] at g
  refine w_stZ C g ⟨hx.1, hx.2, mN_small k⟩ hv d (fun H1 sl a1 a2 a3 => kk H1 _ cells slots ls (hp_mst h1 hm hj hs.1.2 (by rcases hv with rfl | rfl <;> exact ⟨by omega, by omega⟩) (fun _ => hv) ?_ a3) (h2.put a2 a3 g2) h3 h4 h5)
  rw [er]
  have ef : (fun i => i32 (u2 R k x.toNat v k i)) = fun i => if i = x.toNat then i32 v else i32 (R k i) := funext fun i => by
    by_cases q : i = x.toNat
    · rw [if_pos q, q, u2_s]
    · rw [if_neg q, u2_a q]
  rw [ef]
  exact a1
end XM
