/-! the raw picture: cells alone (lists, texts, rows as the JDK's own methods see them); the judgement over it, by program out of parts 06, 07, 10, 11 (wip/tools/mkraw.py) -/
abbrev FT : Type := Nat → Option va_E
def hf (E : EV) (f : FT) (H : Heap) : Prop := ∀ a e, f a = some e → va_at E.1 CL (a, e) H ∧ E.2.2.1 ≤ a
/-- the cells of a raw picture as a list -/
theorem hf_ws {E : EV} {f : FT} {H : Heap} (h : hf E f H) : ∃ ws : va_W, va_P E.1 CL ws H ∧ va_D (bA E) ws ∧ (∀ a e, f a = some e → ∃ k : Nat, ws[k]? = some (a, e)) ∧ ∀ (k a : Nat) (e : va_E), ws[k]? = some (a, e) → f a = some e := by
  have key : ∀ n : Nat, ∃ ws : va_W, (∀ (k a : Nat) (e : va_E), ws[k]? = some (a, e) → f a = some e ∧ a < n) ∧ (∀ a e, a < n → f a = some e → ∃ k : Nat, ws[k]? = some (a, e)) ∧ ∀ (i k : Nat) (x y : Nat × va_E), ws[i]? = some x → ws[k]? = some y → x.1 = y.1 → i = k := by
    intro n
    induction n with
    | zero => exact ⟨[], fun k a e q => by simp at q, fun a e q => by omega, fun i k x y q => by simp at q⟩
    | succ n ih =>
      obtain ⟨ws, a1, a2, a3⟩ := ih
      cases hn : f n with
      | none =>
        refine ⟨ws, fun k a e q => ⟨(a1 k a e q).1, by have := (a1 k a e q).2; omega⟩, fun a e q1 q2 => ?_, a3⟩
        by_cases c : a = n
        · subst c; rw [hn] at q2; cases q2
        · exact a2 a e (by omega) q2
      | some en =>
        refine ⟨ws ++ [(n, en)], fun k a e q => ?_, fun a e q1 q2 => ?_, fun i k x y q1 q2 q3 => ?_⟩
        · by_cases hk : k < ws.length
          · rw [List.getElem?_append_left hk] at q
            exact ⟨(a1 k a e q).1, by have := (a1 k a e q).2; omega⟩
          · rw [List.getElem?_append_right (by omega)] at q
            cases hz : k - ws.length with
            | zero => rw [hz] at q; cases q; exact ⟨hn, by omega⟩
            | succ z => rw [hz] at q; simp at q
        · by_cases c : a = n
          · subst c
            rw [hn] at q2
            cases q2
            exact ⟨ws.length, by rw [List.getElem?_append_right (by omega), Nat.sub_self]; rfl⟩
          · obtain ⟨k, hk⟩ := a2 a e (by omega) q2
            exact ⟨k, by rw [List.getElem?_append_left (List.getElem?_eq_some_iff.mp hk).1]; exact hk⟩
        · have one : ∀ (i : Nat) (x : Nat × va_E), (ws ++ [(n, en)])[i]? = some x → (i < ws.length ∧ ws[i]? = some x ∧ x.1 < n) ∨ (i = ws.length ∧ x.1 = n) := by
            intro i x q
            by_cases hi : i < ws.length
            · rw [List.getElem?_append_left hi] at q
              obtain ⟨xa, xe⟩ := x
              exact Or.inl ⟨hi, q, (a1 i xa xe q).2⟩
            · rw [List.getElem?_append_right (by omega)] at q
              cases hz : i - ws.length with
              | zero => rw [hz] at q; cases q; exact Or.inr ⟨by omega, rfl⟩
              | succ z => rw [hz] at q; simp at q
          rcases one i x q1 with ⟨h1, h2, h3⟩ | ⟨h1, h2⟩ <;> rcases one k y q2 with ⟨g1, g2, g3⟩ | ⟨g1, g2⟩
          · exact a3 i k x y h2 g2 q3
          · omega
          · omega
          · omega
  obtain ⟨ws, a1, a2, a3⟩ := key H.size
  refine ⟨ws, fun k q hq => ?_, ⟨a3, fun k q hq => ?_⟩, fun a e q => a2 a e ?_ q, fun k a e q => (a1 k a e q).1⟩
  · obtain ⟨qa, qe⟩ := q
    exact (h qa qe (a1 k qa qe hq).1).1
  · obtain ⟨qa, qe⟩ := q
    exact (h qa qe (a1 k qa qe hq).1).2
  · exact va_at.lt (h a e q).1
theorem hf_set {E : EV} {f : FT} {H1 : Heap} {ws : va_W} {k a : Nat} {e0 e1 : va_E} (w3 : ∀ a e, f a = some e → ∃ k : Nat, ws[k]? = some (a, e)) (h0 : ws[k]? = some (a, e0)) (hb : ∀ x e, f x = some e → E.2.2.1 ≤ x) (hfa : f a = some e0) (hP : va_P E.1 CL (ws.set k (a, e1)) H1) : hf E (va_up f a (some e1)) H1 := by
  intro x e he
  by_cases hx : x = a
  · subst hx
    rw [show va_up f x (some e1) x = some e1 from if_pos rfl] at he
    cases he
    exact ⟨hP k _ (List.getElem?_set_self (List.getElem?_eq_some_iff.mp h0).1), hb x e0 hfa⟩
  · rw [show va_up f a (some e1) x = f x from if_neg hx] at he
    obtain ⟨k', hk'⟩ := w3 x e he
    have hne : k ≠ k' := fun z => by
      subst z
      rw [h0] at hk'
      cases hk'
      exact hx rfl
    exact ⟨hP k' _ (by rw [List.getElem?_set_ne hne]; exact hk'), hb x e he⟩
theorem hf_push {E : EV} {f : FT} {H1 : Heap} {ws : va_W} {q : Nat} {e1 : va_E} (w3 : ∀ a e, f a = some e → ∃ k : Nat, ws[k]? = some (a, e)) (hb : ∀ x e, f x = some e → E.2.2.1 ≤ x) (hP : va_P E.1 CL (ws ++ [(q, e1)]) H1) (hD : va_D (bA E) (ws ++ [(q, e1)])) : f q = none ∧ hf E (va_up f q (some e1)) H1 := by
  have hl : (ws ++ [(q, e1)])[ws.length]? = some (q, e1) := by rw [List.getElem?_append_right (by omega), Nat.sub_self]; rfl
  have hn : f q = none := by
    cases hq : f q with
    | none => rfl
    | some e =>
      obtain ⟨k, hk⟩ := w3 q e hq
      have hkl := (List.getElem?_eq_some_iff.mp hk).1
      have := hD.1 k ws.length (q, e) (q, e1) (by rw [List.getElem?_append_left hkl]; exact hk) hl rfl
      omega
  refine ⟨hn, fun x e he => ?_⟩
  by_cases hx : x = q
  · subst hx
    rw [show va_up f x (some e1) x = some e1 from if_pos rfl] at he
    cases he
    exact ⟨hP _ _ hl, hD.2 _ _ hl⟩
  · rw [show va_up f q (some e1) x = f x from if_neg hx] at he
    obtain ⟨k, hk⟩ := w3 x e he
    exact ⟨hP k _ (by rw [List.getElem?_append_left (List.getElem?_eq_some_iff.mp hk).1]; exact hk), hb x e he⟩
theorem hf.lo {E : EV} {f : FT} {H : Heap} (h : hf E f H) : ∀ x e, f x = some e → E.2.2.1 ≤ x := fun x e q => (h x e q).2
theorem up_s {f : FT} {a : Nat} {e : Option va_E} : va_up f a e a = e := if_pos rfl
theorem up_n {f : FT} {a x : Nat} {e : Option va_E} (h : x ≠ a) : va_up f a e x = f x := if_neg h
/-- the world: tables, statics, the picture -/
def WF (E : EV) (G : FT) (U : State) : Prop := va_K E.1 CL (tyE E) U ∧ ST E U U.heap ∧ E.2.2.1 ≤ U.heap.size ∧ hf E G U.heap ∧ ∀ w ∈ NW, va_Nw w U
def PR (E : EV) (av : List Value) (G : FT) : Array Value → State → Prop := va_Pc av (WF E G)
def QR (E : EV) (post : Option Value → FT → Prop) : Array Value → State → Outcome → State → Prop := fun _ st o t => (∃ (v : Option Value) (G' : FT), o = .returned v ∧ WF E G' t ∧ post v G') ∧ va_F (bA E) st t
/-- a method that returns -/
def MR (E : EV) (l : Launch) (y : MethodName) (cc : ByteArray) (nL : Nat) (ret : Option FieldType) (fr lo mc ms : Nat) (av : List Value) (G : FT) (post : Option Value → FT → Prop) : Prop :=
  Met l y (wsm y cc nL ret) ({ frames := fr, cells := mc, slots := ms, locals := lo } : Room) (PR E av G) (QR E post) mc ms (bA E)
def MRQ (E : EV) (below : List Frame) (args : Array Value) (s : State) (mc ms : Nat) (post : Option Value → FT → Prop) : State → Prop := MQ below (QR E post) args s mc ms (bA E)
def YW (E : EV) (p : Program) (l : Launch) (e : Env) (R : Room) (s : State) (m : MethodId) (args : Array Value) (below : List Frame) (meth : Method) (c : Code) (nL mc ms : Nat) (Q : State → Prop) (G : FT) (kc ks pc : Nat) (L : List (Option Value)) (st : List Value) : Prop :=
  ∀ (H : Heap) (locs : List Loc) (cells slots : Nat) (ls : Array Slot), hf E G H → va_S (bA E) s.heap H locs → XL ls nL L → cells + kc ≤ mc → slots + ks ≤ ms → W p l e R s m args below meth c H locs cells slots Q (F0 m pc ls st)
section YR
variable {E : EV} {p : Program} {l : Launch} {e : Env} {R : Room} {s : State} {m : MethodId} {args : Array Value} {below : List Frame} {meth : Method} {c : Code} {cc : ByteArray} {nL mc ms : Nat} {own : String} {ret : Option FieldType} {Q : State → Prop} {G : FT} {kc ks pc : Nat} {L : List (Option Value)} {st : List Value}
theorem y_iconst (n : Nat) (C : CX E p R s m args meth c cc nL own mc ms ret) {v : Int} (d : decode cc pc = .ok (.iconst v, 1)) (hn : pc + 1 = n)
    (k : YW E p l e R s m args below meth c nL mc ms Q G kc ks n L (.int (i32 v) :: st)) : YW E p l e R s m args below meth c nL mc ms Q G kc ks pc L st := by
  subst hn
  intro H locs cells slots ls h1 h2 h3 h4 h5
  exact lv_iconst C.1 C.2.1 d rfl (k H locs cells slots ls h1 h2 h3 h4 h5)
theorem y_bipush (n : Nat) (C : CX E p R s m args meth c cc nL own mc ms ret) {v : Int} (d : decode cc pc = .ok (.bipush v, 2)) (hn : pc + 2 = n) (hv : (Int8.ofInt v).toInt32 = i32 v)
    (k : YW E p l e R s m args below meth c nL mc ms Q G kc ks n L (.int (i32 v) :: st)) : YW E p l e R s m args below meth c nL mc ms Q G kc ks pc L st := by
  subst hn
  intro H locs cells slots ls h1 h2 h3 h4 h5
  exact lv_bipush C.1 C.2.1 d hv (k H locs cells slots ls h1 h2 h3 h4 h5)
theorem y_sipush (n : Nat) (C : CX E p R s m args meth c cc nL own mc ms ret) {v : Int} (d : decode cc pc = .ok (.sipush v, 3)) (hn : pc + 3 = n) (hv : (Int16.ofInt v).toInt32 = i32 v)
    (k : YW E p l e R s m args below meth c nL mc ms Q G kc ks n L (.int (i32 v) :: st)) : YW E p l e R s m args below meth c nL mc ms Q G kc ks pc L st := by
  subst hn
  intro H locs cells slots ls h1 h2 h3 h4 h5
  exact lv_sipush C.1 C.2.1 d hv (k H locs cells slots ls h1 h2 h3 h4 h5)
theorem y_ldc (n : Nat) (C : CX E p R s m args meth c cc nL own mc ms ret) {i : Nat} {v : Int} (hc : (Cond.constant own i (i32 v)) ∈ AW) (d : decode cc pc = .ok (.ldc i, 2)) (hn : pc + 2 = n)
    (k : YW E p l e R s m args below meth c nL mc ms Q G kc ks n L (.int (i32 v) :: st)) : YW E p l e R s m args below meth c nL mc ms Q G kc ks pc L st := by
  subst hn
  intro H locs cells slots ls h1 h2 h3 h4 h5
  exact lv_ldc C.1 C.2.1 C.2.2.2.1 (C.2.2.2.2.1 _ hc) d (k H locs cells slots ls h1 h2 h3 h4 h5)
theorem y_iload_n (n : Nat) (C : CX E p R s m args meth c cc nL own mc ms ret) {i : Fin 4} {x : Int32} (d : decode cc pc = .ok (.iload_n i, 1)) (hn : pc + 1 = n) (hi : L[i.val]? = some (some (.int x)))
    (k : YW E p l e R s m args below meth c nL mc ms Q G kc ks n L (.int x :: st)) : YW E p l e R s m args below meth c nL mc ms Q G kc ks pc L st := by
  subst hn
  intro H locs cells slots ls h1 h2 h3 h4 h5
  exact lv_iload_n C.1 C.2.1 d rfl (h3.get hi) (k H locs cells slots ls h1 h2 h3 h4 h5)
theorem y_iload (n : Nat) (C : CX E p R s m args meth c cc nL own mc ms ret) {i : Nat} {x : Int32} (d : decode cc pc = .ok (.iload i, 2)) (hn : pc + 2 = n) (hi : L[i]? = some (some (.int x)))
    (k : YW E p l e R s m args below meth c nL mc ms Q G kc ks n L (.int x :: st)) : YW E p l e R s m args below meth c nL mc ms Q G kc ks pc L st := by
  subst hn
  intro H locs cells slots ls h1 h2 h3 h4 h5
  exact lv_iload C.1 C.2.1 d (h3.get hi) (k H locs cells slots ls h1 h2 h3 h4 h5)
theorem y_aload_n (n : Nat) (C : CX E p R s m args meth c cc nL own mc ms ret) {i : Fin 4} {x : Nat} (d : decode cc pc = .ok (.aload_n i, 1)) (hn : pc + 1 = n) (hi : L[i.val]? = some (some (.ref x)))
    (k : YW E p l e R s m args below meth c nL mc ms Q G kc ks n L (.ref x :: st)) : YW E p l e R s m args below meth c nL mc ms Q G kc ks pc L st := by
  subst hn
  intro H locs cells slots ls h1 h2 h3 h4 h5
  exact lv_aload_n C.1 C.2.1 d rfl (h3.get hi) (k H locs cells slots ls h1 h2 h3 h4 h5)
theorem y_aload (n : Nat) (C : CX E p R s m args meth c cc nL own mc ms ret) {i : Nat} {x : Nat} (d : decode cc pc = .ok (.aload i, 2)) (hn : pc + 2 = n) (hi : L[i]? = some (some (.ref x)))
    (k : YW E p l e R s m args below meth c nL mc ms Q G kc ks n L (.ref x :: st)) : YW E p l e R s m args below meth c nL mc ms Q G kc ks pc L st := by
  subst hn
  intro H locs cells slots ls h1 h2 h3 h4 h5
  exact lv_aload C.1 C.2.1 d (h3.get hi) (k H locs cells slots ls h1 h2 h3 h4 h5)
/-- a reference that may be null -/
theorem y_aload_nq (n : Nat) (C : CX E p R s m args meth c cc nL own mc ms ret) {i : Fin 4} {r : Option Nat} (d : decode cc pc = .ok (.aload_n i, 1)) (hn : pc + 1 = n) (hi : L[i.val]? = some (some (va_rf r)))
    (k : YW E p l e R s m args below meth c nL mc ms Q G kc ks n L (va_rf r :: st)) : YW E p l e R s m args below meth c nL mc ms Q G kc ks pc L st := by
  subst hn
  intro H locs cells slots ls h1 h2 h3 h4 h5
  cases r with
  | none => exact lv_aload_nN C.1 C.2.1 d rfl (h3.get hi) (k H locs cells slots ls h1 h2 h3 h4 h5)
  | some x => exact lv_aload_n C.1 C.2.1 d rfl (h3.get hi) (k H locs cells slots ls h1 h2 h3 h4 h5)
theorem y_aloadq (n : Nat) (C : CX E p R s m args meth c cc nL own mc ms ret) {i : Nat} {r : Option Nat} (d : decode cc pc = .ok (.aload i, 2)) (hn : pc + 2 = n) (hi : L[i]? = some (some (va_rf r)))
    (k : YW E p l e R s m args below meth c nL mc ms Q G kc ks n L (va_rf r :: st)) : YW E p l e R s m args below meth c nL mc ms Q G kc ks pc L st := by
  subst hn
  intro H locs cells slots ls h1 h2 h3 h4 h5
  cases r with
  | none => exact lv_aloadN C.1 C.2.1 d (h3.get hi) (k H locs cells slots ls h1 h2 h3 h4 h5)
  | some x => exact lv_aload C.1 C.2.1 d (h3.get hi) (k H locs cells slots ls h1 h2 h3 h4 h5)
theorem y_istore_n (n : Nat) (C : CX E p R s m args meth c cc nL own mc ms ret) {i : Fin 4} {x : Int32} {L' : List (Option Value)} (d : decode cc pc = .ok (.istore_n i, 1)) (hn : pc + 1 = n) (hi : Nat.blt i.val nL = true) (hL : L.set i.val (some (.int x)) = L')
    (k : YW E p l e R s m args below meth c nL mc ms Q G kc ks n L' st) : YW E p l e R s m args below meth c nL mc ms Q G kc ks pc L (.int x :: st) := by
  subst hn
  intro H locs cells slots ls h1 h2 h3 h4 h5
  exact lv_istore_n C.1 C.2.1 d rfl h3.has (Nat.le_of_ble_eq_true hi) rfl (fun ls' h => k H locs cells slots ls' h1 h2 (h3.store rfl h hL) h4 h5)
theorem y_istore (n : Nat) (C : CX E p R s m args meth c cc nL own mc ms ret) {i : Nat} {x : Int32} {L' : List (Option Value)} (d : decode cc pc = .ok (.istore i, 2)) (hn : pc + 2 = n) (hi : Nat.blt i nL = true) (hL : L.set i (some (.int x)) = L')
    (k : YW E p l e R s m args below meth c nL mc ms Q G kc ks n L' st) : YW E p l e R s m args below meth c nL mc ms Q G kc ks pc L (.int x :: st) := by
  subst hn
  intro H locs cells slots ls h1 h2 h3 h4 h5
  exact lv_istore C.1 C.2.1 d h3.has (Nat.le_of_ble_eq_true hi) rfl (fun ls' h => k H locs cells slots ls' h1 h2 (h3.store rfl h hL) h4 h5)
theorem y_astore_n (n : Nat) (C : CX E p R s m args meth c cc nL own mc ms ret) {i : Fin 4} {x : Nat} {L' : List (Option Value)} (d : decode cc pc = .ok (.astore_n i, 1)) (hn : pc + 1 = n) (hi : Nat.blt i.val nL = true) (hL : L.set i.val (some (.ref x)) = L')
    (k : YW E p l e R s m args below meth c nL mc ms Q G kc ks n L' st) : YW E p l e R s m args below meth c nL mc ms Q G kc ks pc L (.ref x :: st) := by
  subst hn
  intro H locs cells slots ls h1 h2 h3 h4 h5
  exact lv_astore_n C.1 C.2.1 d rfl h3.has (Nat.le_of_ble_eq_true hi) rfl (fun ls' h => k H locs cells slots ls' h1 h2 (h3.store rfl h hL) h4 h5)
theorem y_astore (n : Nat) (C : CX E p R s m args meth c cc nL own mc ms ret) {i : Nat} {x : Nat} {L' : List (Option Value)} (d : decode cc pc = .ok (.astore i, 2)) (hn : pc + 2 = n) (hi : Nat.blt i nL = true) (hL : L.set i (some (.ref x)) = L')
    (k : YW E p l e R s m args below meth c nL mc ms Q G kc ks n L' st) : YW E p l e R s m args below meth c nL mc ms Q G kc ks pc L (.ref x :: st) := by
  subst hn
  intro H locs cells slots ls h1 h2 h3 h4 h5
  exact lv_astore C.1 C.2.1 d h3.has (Nat.le_of_ble_eq_true hi) rfl (fun ls' h => k H locs cells slots ls' h1 h2 (h3.store rfl h hL) h4 h5)
theorem y_astore_nq (n : Nat) (C : CX E p R s m args meth c cc nL own mc ms ret) {i : Fin 4} {r : Option Nat} {L' : List (Option Value)} (d : decode cc pc = .ok (.astore_n i, 1)) (hn : pc + 1 = n) (hi : Nat.blt i.val nL = true) (hL : L.set i.val (some (va_rf r)) = L')
    (k : YW E p l e R s m args below meth c nL mc ms Q G kc ks n L' st) : YW E p l e R s m args below meth c nL mc ms Q G kc ks pc L (va_rf r :: st) := by
  subst hn
  intro H locs cells slots ls h1 h2 h3 h4 h5
  cases r with
  | none => exact lv_astore_nN C.1 C.2.1 d rfl h3.has (Nat.le_of_ble_eq_true hi) rfl (fun ls' h => k H locs cells slots ls' h1 h2 (h3.store rfl h hL) h4 h5)
  | some x => exact lv_astore_n C.1 C.2.1 d rfl h3.has (Nat.le_of_ble_eq_true hi) rfl (fun ls' h => k H locs cells slots ls' h1 h2 (h3.store rfl h hL) h4 h5)
theorem y_astoreq (n : Nat) (C : CX E p R s m args meth c cc nL own mc ms ret) {i : Nat} {r : Option Nat} {L' : List (Option Value)} (d : decode cc pc = .ok (.astore i, 2)) (hn : pc + 2 = n) (hi : Nat.blt i nL = true) (hL : L.set i (some (va_rf r)) = L')
    (k : YW E p l e R s m args below meth c nL mc ms Q G kc ks n L' st) : YW E p l e R s m args below meth c nL mc ms Q G kc ks pc L (va_rf r :: st) := by
  subst hn
  intro H locs cells slots ls h1 h2 h3 h4 h5
  cases r with
  | none => exact lv_astoreN C.1 C.2.1 d h3.has (Nat.le_of_ble_eq_true hi) rfl (fun ls' h => k H locs cells slots ls' h1 h2 (h3.store rfl h hL) h4 h5)
  | some x => exact lv_astore C.1 C.2.1 d h3.has (Nat.le_of_ble_eq_true hi) rfl (fun ls' h => k H locs cells slots ls' h1 h2 (h3.store rfl h hL) h4 h5)
theorem y_iinc (n : Nat) (C : CX E p R s m args meth c cc nL own mc ms ret) {i : Nat} {v x : Int} {L' : List (Option Value)} (d : decode cc pc = .ok (.iinc i v, 3)) (hn : pc + 3 = n) (hi : Nat.blt i nL = true) (hg : L[i]? = some (some (.int (i32 x)))) (hL : L.set i (some (.int (i32 (x + v)))) = L')
    (k : YW E p l e R s m args below meth c nL mc ms Q G kc ks n L' st) : YW E p l e R s m args below meth c nL mc ms Q G kc ks pc L st := by
  subst hn
  intro H locs cells slots ls h1 h2 h3 h4 h5
  have hm : (i, Value.int (i32 x)) ∈ asc 0 L := (asc_mem L 0 i _).mpr ⟨i, by omega, hg⟩
  obtain ⟨j, hj⟩ := List.getElem?_of_mem hm
  exact lv_iinc (v := i32 (x + v)) C.1 C.2.1 d h3.has hj (i32_add x v) (Nat.le_of_ble_eq_true hi) rfl (fun ls' h => k H locs cells slots ls' h1 h2 (h3.store rfl h hL) h4 h5)
theorem y_iadd (n : Nat) (C : CX E p R s m args meth c cc nL own mc ms ret) {x y : Int} (d : decode cc pc = .ok (.iadd, 1)) (hn : pc + 1 = n)
    (k : YW E p l e R s m args below meth c nL mc ms Q G kc ks n L (.int (i32 (x + y)) :: st)) : YW E p l e R s m args below meth c nL mc ms Q G kc ks pc L (.int (i32 y) :: .int (i32 x) :: st) := by
  subst hn
  intro H locs cells slots ls h1 h2 h3 h4 h5
  exact lv_iadd C.1 C.2.1 d (by rw [i32_add]; exact k H locs cells slots ls h1 h2 h3 h4 h5)
theorem y_isub (n : Nat) (C : CX E p R s m args meth c cc nL own mc ms ret) {x y : Int} (d : decode cc pc = .ok (.isub, 1)) (hn : pc + 1 = n)
    (k : YW E p l e R s m args below meth c nL mc ms Q G kc ks n L (.int (i32 (x - y)) :: st)) : YW E p l e R s m args below meth c nL mc ms Q G kc ks pc L (.int (i32 y) :: .int (i32 x) :: st) := by
  subst hn
  intro H locs cells slots ls h1 h2 h3 h4 h5
  exact lv_isub C.1 C.2.1 d (by rw [i32_sub]; exact k H locs cells slots ls h1 h2 h3 h4 h5)
theorem y_imul (n : Nat) (C : CX E p R s m args meth c cc nL own mc ms ret) {x y : Int} (d : decode cc pc = .ok (.imul, 1)) (hn : pc + 1 = n)
    (k : YW E p l e R s m args below meth c nL mc ms Q G kc ks n L (.int (i32 (x * y)) :: st)) : YW E p l e R s m args below meth c nL mc ms Q G kc ks pc L (.int (i32 y) :: .int (i32 x) :: st) := by
  subst hn
  intro H locs cells slots ls h1 h2 h3 h4 h5
  exact lv_imul C.1 C.2.1 d (by rw [i32_mul]; exact k H locs cells slots ls h1 h2 h3 h4 h5)
theorem y_iand (n : Nat) (C : CX E p R s m args meth c cc nL own mc ms ret) {x y : Int} (d : decode cc pc = .ok (.iand, 1)) (hn : pc + 1 = n)
    (k : YW E p l e R s m args below meth c nL mc ms Q G kc ks n L (.int (i32 (iand x y)) :: st)) : YW E p l e R s m args below meth c nL mc ms Q G kc ks pc L (.int (i32 y) :: .int (i32 x) :: st) := by
  subst hn
  intro H locs cells slots ls h1 h2 h3 h4 h5
  exact lv_iand C.1 C.2.1 d (by rw [i32_and]; exact k H locs cells slots ls h1 h2 h3 h4 h5)
theorem y_ior (n : Nat) (C : CX E p R s m args meth c cc nL own mc ms ret) {x y : Int} (d : decode cc pc = .ok (.ior, 1)) (hn : pc + 1 = n)
    (k : YW E p l e R s m args below meth c nL mc ms Q G kc ks n L (.int (i32 (ior x y)) :: st)) : YW E p l e R s m args below meth c nL mc ms Q G kc ks pc L (.int (i32 y) :: .int (i32 x) :: st) := by
  subst hn
  intro H locs cells slots ls h1 h2 h3 h4 h5
  exact lv_ior C.1 C.2.1 d (by rw [i32_or]; exact k H locs cells slots ls h1 h2 h3 h4 h5)
theorem y_idiv (n : Nat) (C : CX E p R s m args meth c cc nL own mc ms ret) {x y : Int} (d : decode cc pc = .ok (.idiv, 1)) (hn : pc + 1 = n) (hr : (0 ≤ x ∧ x ≤ 2147483647) ∧ (0 < y ∧ y ≤ 2147483647))
    (k : YW E p l e R s m args below meth c nL mc ms Q G kc ks n L (.int (i32 (x / y)) :: st)) : YW E p l e R s m args below meth c nL mc ms Q G kc ks pc L (.int (i32 y) :: .int (i32 x) :: st) := by
  subst hn
  intro H locs cells slots ls h1 h2 h3 h4 h5
  have hx : InR x := ⟨by omega, hr.1.2⟩
  have hy : InR y := ⟨by omega, hr.2.2⟩
  exact lv_idiv C.1 C.2.1 d (fun z => by rw [i32_0] at z; have := i32_inj hy ⟨by omega, by omega⟩ z; omega) (by rw [i32_div hx hy hr.1.1 hr.2.1]; exact k H locs cells slots ls h1 h2 h3 h4 h5)
theorem y_irem (n : Nat) (C : CX E p R s m args meth c cc nL own mc ms ret) {x y : Int} (d : decode cc pc = .ok (.irem, 1)) (hn : pc + 1 = n) (hr : (0 ≤ x ∧ x ≤ 2147483647) ∧ (0 < y ∧ y ≤ 2147483647))
    (k : YW E p l e R s m args below meth c nL mc ms Q G kc ks n L (.int (i32 (x % y)) :: st)) : YW E p l e R s m args below meth c nL mc ms Q G kc ks pc L (.int (i32 y) :: .int (i32 x) :: st) := by
  subst hn
  intro H locs cells slots ls h1 h2 h3 h4 h5
  have hx : InR x := ⟨by omega, hr.1.2⟩
  have hy : InR y := ⟨by omega, hr.2.2⟩
  exact lv_irem C.1 C.2.1 d (fun z => by rw [i32_0] at z; have := i32_inj hy ⟨by omega, by omega⟩ z; omega) (by rw [i32_rem hx hy hr.1.1 hr.2.1]; exact k H locs cells slots ls h1 h2 h3 h4 h5)
theorem y_dup (n : Nat) (C : CX E p R s m args meth c cc nL own mc ms ret) {v : Value} (d : decode cc pc = .ok (.dup, 1)) (hn : pc + 1 = n) (hv : v.category = 1)
    (k : YW E p l e R s m args below meth c nL mc ms Q G kc ks n L (v :: v :: st)) : YW E p l e R s m args below meth c nL mc ms Q G kc ks pc L (v :: st) := by
  subst hn
  intro H locs cells slots ls h1 h2 h3 h4 h5
  exact lv_dup C.1 C.2.1 d hv (k H locs cells slots ls h1 h2 h3 h4 h5)
theorem y_pop (n : Nat) (C : CX E p R s m args meth c cc nL own mc ms ret) {v : Value} (d : decode cc pc = .ok (.pop, 1)) (hn : pc + 1 = n) (hv : v.category = 1)
    (k : YW E p l e R s m args below meth c nL mc ms Q G kc ks n L st) : YW E p l e R s m args below meth c nL mc ms Q G kc ks pc L (v :: st) := by
  subst hn
  intro H locs cells slots ls h1 h2 h3 h4 h5
  exact lv_pop C.1 C.2.1 d hv (k H locs cells slots ls h1 h2 h3 h4 h5)
theorem y_dup_x1 (n : Nat) (C : CX E p R s m args meth c cc nL own mc ms ret) {v w : Value} (d : decode cc pc = .ok (.dup_x1, 1)) (hn : pc + 1 = n) (hv : v.category = 1) (hw : w.category = 1)
    (k : YW E p l e R s m args below meth c nL mc ms Q G kc ks n L (v :: w :: v :: st)) : YW E p l e R s m args below meth c nL mc ms Q G kc ks pc L (v :: w :: st) := by
  subst hn
  intro H locs cells slots ls h1 h2 h3 h4 h5
  exact lv_dup_x1 C.1 C.2.1 d hv hw (k H locs cells slots ls h1 h2 h3 h4 h5)
theorem y_dup2 (n : Nat) (C : CX E p R s m args meth c cc nL own mc ms ret) {v w : Value} (d : decode cc pc = .ok (.dup2, 1)) (hn : pc + 1 = n) (hv : v.category = 1) (hw : w.category = 1)
    (k : YW E p l e R s m args below meth c nL mc ms Q G kc ks n L (v :: w :: v :: w :: st)) : YW E p l e R s m args below meth c nL mc ms Q G kc ks pc L (v :: w :: st) := by
  subst hn
  intro H locs cells slots ls h1 h2 h3 h4 h5
  exact lv_dup2_11 C.1 C.2.1 d hv hw (k H locs cells slots ls h1 h2 h3 h4 h5)
theorem y_goto (n : Nat) (C : CX E p R s m args meth c cc nL own mc ms ret) {off : Int} (d : decode cc pc = .ok (.goto off, 3)) (ht : (pc : Int) + off = (n : Int))
    (k : YW E p l e R s m args below meth c nL mc ms Q G kc ks n L st) : YW E p l e R s m args below meth c nL mc ms Q G kc ks pc L st := by
  intro H locs cells slots ls h1 h2 h3 h4 h5
  exact lv_goto C.1 C.2.1 d ht (k H locs cells slots ls h1 h2 h3 h4 h5)
theorem y_null (n : Nat) (C : CX E p R s m args meth c cc nL own mc ms ret) (d : decode cc pc = .ok (.aconst_null, 1)) (hn : pc + 1 = n)
    (k : YW E p l e R s m args below meth c nL mc ms Q G kc ks n L (va_rf none :: st)) : YW E p l e R s m args below meth c nL mc ms Q G kc ks pc L st := by
  subst hn
  intro H locs cells slots ls h1 h2 h3 h4 h5
  exact lv_null C.1 C.2.1 d (k H locs cells slots ls h1 h2 h3 h4 h5)
/-- less to spend, or more known to be there -/
theorem y_weak {kc' ks' : Nat} (h1 : kc' ≤ kc) (h2 : ks' ≤ ks) (k : YW E p l e R s m args below meth c nL mc ms Q G kc' ks' pc L st) : YW E p l e R s m args below meth c nL mc ms Q G kc ks pc L st :=
  fun H locs cells slots ls a1 a2 a3 a4 a5 => k H locs cells slots ls a1 a2 a3 (by omega) (by omega)
end YR
section YB
variable {E : EV} {p : Program} {l : Launch} {e : Env} {R : Room} {s : State} {m : MethodId} {args : Array Value} {below : List Frame} {meth : Method} {c : Code} {cc : ByteArray} {nL mc ms : Nat} {own : String} {ret : Option FieldType} {Q : State → Prop} {G : FT} {kc ks pc : Nat} {L : List (Option Value)} {st : List Value}
theorem y_icmp_eq (n t : Nat) (C : CX E p R s m args meth c cc nL own mc ms ret) {x y : Int} {off : Int} (d : decode cc pc = .ok (.if_icmp .eq off, 3)) (hn : pc + 3 = n) (ht : (pc : Int) + off = (t : Int)) (hx : InR x) (hy : InR y)
    (kt : x = y → YW E p l e R s m args below meth c nL mc ms Q G kc ks t L st) (kf : ¬ x = y → YW E p l e R s m args below meth c nL mc ms Q G kc ks n L st) : YW E p l e R s m args below meth c nL mc ms Q G kc ks pc L (.int (i32 y) :: .int (i32 x) :: st) := by
  subst hn
  intro H locs cells slots ls h1 h2 h3 h4 h5
  refine lv_icmp_eq C.1 C.2.1 d ht (fun z => kt ?_ H locs cells slots ls h1 h2 h3 h4 h5) (fun z => kf ?_ H locs cells slots ls h1 h2 h3 h4 h5)
  · have e1 := i32_eq hx hy; have e2 := i32_lt hx hy; have e3 := i32_le hx hy; have e4 := i32_lt hy hx; have e5 := i32_le hy hx
    first | exact e1.mp z | exact fun w => z (e1.mpr w) | exact e1.mp (Decidable.byContradiction z) | exact e2.mp z | exact e3.mp z | exact e4.mp z | exact e5.mp z | exact Int.not_lt.mp (fun w => z (e2.mpr w)) | exact Int.not_lt.mp (fun w => z (e4.mpr w)) | exact Int.not_le.mp (fun w => z (e3.mpr w)) | exact Int.not_le.mp (fun w => z (e5.mpr w))
  · have e1 := i32_eq hx hy; have e2 := i32_lt hx hy; have e3 := i32_le hx hy; have e4 := i32_lt hy hx; have e5 := i32_le hy hx
    first | exact e1.mp z | exact fun w => z (e1.mpr w) | exact e1.mp (Decidable.byContradiction z) | exact e2.mp z | exact e3.mp z | exact e4.mp z | exact e5.mp z | exact Int.not_lt.mp (fun w => z (e2.mpr w)) | exact Int.not_lt.mp (fun w => z (e4.mpr w)) | exact Int.not_le.mp (fun w => z (e3.mpr w)) | exact Int.not_le.mp (fun w => z (e5.mpr w))
theorem y_icmp_ne (n t : Nat) (C : CX E p R s m args meth c cc nL own mc ms ret) {x y : Int} {off : Int} (d : decode cc pc = .ok (.if_icmp .ne off, 3)) (hn : pc + 3 = n) (ht : (pc : Int) + off = (t : Int)) (hx : InR x) (hy : InR y)
    (kt : ¬ x = y → YW E p l e R s m args below meth c nL mc ms Q G kc ks t L st) (kf : x = y → YW E p l e R s m args below meth c nL mc ms Q G kc ks n L st) : YW E p l e R s m args below meth c nL mc ms Q G kc ks pc L (.int (i32 y) :: .int (i32 x) :: st) := by
  subst hn
  intro H locs cells slots ls h1 h2 h3 h4 h5
  refine lv_icmp_ne C.1 C.2.1 d ht (fun z => kt ?_ H locs cells slots ls h1 h2 h3 h4 h5) (fun z => kf ?_ H locs cells slots ls h1 h2 h3 h4 h5)
  · have e1 := i32_eq hx hy; have e2 := i32_lt hx hy; have e3 := i32_le hx hy; have e4 := i32_lt hy hx; have e5 := i32_le hy hx
    first | exact e1.mp z | exact fun w => z (e1.mpr w) | exact e1.mp (Decidable.byContradiction z) | exact e2.mp z | exact e3.mp z | exact e4.mp z | exact e5.mp z | exact Int.not_lt.mp (fun w => z (e2.mpr w)) | exact Int.not_lt.mp (fun w => z (e4.mpr w)) | exact Int.not_le.mp (fun w => z (e3.mpr w)) | exact Int.not_le.mp (fun w => z (e5.mpr w))
  · have e1 := i32_eq hx hy; have e2 := i32_lt hx hy; have e3 := i32_le hx hy; have e4 := i32_lt hy hx; have e5 := i32_le hy hx
    first | exact e1.mp z | exact fun w => z (e1.mpr w) | exact e1.mp (Decidable.byContradiction z) | exact e2.mp z | exact e3.mp z | exact e4.mp z | exact e5.mp z | exact Int.not_lt.mp (fun w => z (e2.mpr w)) | exact Int.not_lt.mp (fun w => z (e4.mpr w)) | exact Int.not_le.mp (fun w => z (e3.mpr w)) | exact Int.not_le.mp (fun w => z (e5.mpr w))
theorem y_icmp_lt (n t : Nat) (C : CX E p R s m args meth c cc nL own mc ms ret) {x y : Int} {off : Int} (d : decode cc pc = .ok (.if_icmp .lt off, 3)) (hn : pc + 3 = n) (ht : (pc : Int) + off = (t : Int)) (hx : InR x) (hy : InR y)
    (kt : x < y → YW E p l e R s m args below meth c nL mc ms Q G kc ks t L st) (kf : y ≤ x → YW E p l e R s m args below meth c nL mc ms Q G kc ks n L st) : YW E p l e R s m args below meth c nL mc ms Q G kc ks pc L (.int (i32 y) :: .int (i32 x) :: st) := by
  subst hn
  intro H locs cells slots ls h1 h2 h3 h4 h5
  refine lv_icmp_lt C.1 C.2.1 d ht (fun z => kt ?_ H locs cells slots ls h1 h2 h3 h4 h5) (fun z => kf ?_ H locs cells slots ls h1 h2 h3 h4 h5)
  · have e1 := i32_eq hx hy; have e2 := i32_lt hx hy; have e3 := i32_le hx hy; have e4 := i32_lt hy hx; have e5 := i32_le hy hx
    first | exact e1.mp z | exact fun w => z (e1.mpr w) | exact e1.mp (Decidable.byContradiction z) | exact e2.mp z | exact e3.mp z | exact e4.mp z | exact e5.mp z | exact Int.not_lt.mp (fun w => z (e2.mpr w)) | exact Int.not_lt.mp (fun w => z (e4.mpr w)) | exact Int.not_le.mp (fun w => z (e3.mpr w)) | exact Int.not_le.mp (fun w => z (e5.mpr w))
  · have e1 := i32_eq hx hy; have e2 := i32_lt hx hy; have e3 := i32_le hx hy; have e4 := i32_lt hy hx; have e5 := i32_le hy hx
    first | exact e1.mp z | exact fun w => z (e1.mpr w) | exact e1.mp (Decidable.byContradiction z) | exact e2.mp z | exact e3.mp z | exact e4.mp z | exact e5.mp z | exact Int.not_lt.mp (fun w => z (e2.mpr w)) | exact Int.not_lt.mp (fun w => z (e4.mpr w)) | exact Int.not_le.mp (fun w => z (e3.mpr w)) | exact Int.not_le.mp (fun w => z (e5.mpr w))
theorem y_icmp_ge (n t : Nat) (C : CX E p R s m args meth c cc nL own mc ms ret) {x y : Int} {off : Int} (d : decode cc pc = .ok (.if_icmp .ge off, 3)) (hn : pc + 3 = n) (ht : (pc : Int) + off = (t : Int)) (hx : InR x) (hy : InR y)
    (kt : y ≤ x → YW E p l e R s m args below meth c nL mc ms Q G kc ks t L st) (kf : x < y → YW E p l e R s m args below meth c nL mc ms Q G kc ks n L st) : YW E p l e R s m args below meth c nL mc ms Q G kc ks pc L (.int (i32 y) :: .int (i32 x) :: st) := by
  subst hn
  intro H locs cells slots ls h1 h2 h3 h4 h5
  refine lv_icmp_ge C.1 C.2.1 d ht (fun z => kt ?_ H locs cells slots ls h1 h2 h3 h4 h5) (fun z => kf ?_ H locs cells slots ls h1 h2 h3 h4 h5)
  · have e1 := i32_eq hx hy; have e2 := i32_lt hx hy; have e3 := i32_le hx hy; have e4 := i32_lt hy hx; have e5 := i32_le hy hx
    first | exact e1.mp z | exact fun w => z (e1.mpr w) | exact e1.mp (Decidable.byContradiction z) | exact e2.mp z | exact e3.mp z | exact e4.mp z | exact e5.mp z | exact Int.not_lt.mp (fun w => z (e2.mpr w)) | exact Int.not_lt.mp (fun w => z (e4.mpr w)) | exact Int.not_le.mp (fun w => z (e3.mpr w)) | exact Int.not_le.mp (fun w => z (e5.mpr w))
  · have e1 := i32_eq hx hy; have e2 := i32_lt hx hy; have e3 := i32_le hx hy; have e4 := i32_lt hy hx; have e5 := i32_le hy hx
    first | exact e1.mp z | exact fun w => z (e1.mpr w) | exact e1.mp (Decidable.byContradiction z) | exact e2.mp z | exact e3.mp z | exact e4.mp z | exact e5.mp z | exact Int.not_lt.mp (fun w => z (e2.mpr w)) | exact Int.not_lt.mp (fun w => z (e4.mpr w)) | exact Int.not_le.mp (fun w => z (e3.mpr w)) | exact Int.not_le.mp (fun w => z (e5.mpr w))
theorem y_icmp_gt (n t : Nat) (C : CX E p R s m args meth c cc nL own mc ms ret) {x y : Int} {off : Int} (d : decode cc pc = .ok (.if_icmp .gt off, 3)) (hn : pc + 3 = n) (ht : (pc : Int) + off = (t : Int)) (hx : InR x) (hy : InR y)
    (kt : y < x → YW E p l e R s m args below meth c nL mc ms Q G kc ks t L st) (kf : x ≤ y → YW E p l e R s m args below meth c nL mc ms Q G kc ks n L st) : YW E p l e R s m args below meth c nL mc ms Q G kc ks pc L (.int (i32 y) :: .int (i32 x) :: st) := by
  subst hn
  intro H locs cells slots ls h1 h2 h3 h4 h5
  refine lv_icmp_gt C.1 C.2.1 d ht (fun z => kt ?_ H locs cells slots ls h1 h2 h3 h4 h5) (fun z => kf ?_ H locs cells slots ls h1 h2 h3 h4 h5)
  · have e1 := i32_eq hx hy; have e2 := i32_lt hx hy; have e3 := i32_le hx hy; have e4 := i32_lt hy hx; have e5 := i32_le hy hx
    first | exact e1.mp z | exact fun w => z (e1.mpr w) | exact e1.mp (Decidable.byContradiction z) | exact e2.mp z | exact e3.mp z | exact e4.mp z | exact e5.mp z | exact Int.not_lt.mp (fun w => z (e2.mpr w)) | exact Int.not_lt.mp (fun w => z (e4.mpr w)) | exact Int.not_le.mp (fun w => z (e3.mpr w)) | exact Int.not_le.mp (fun w => z (e5.mpr w))
  · have e1 := i32_eq hx hy; have e2 := i32_lt hx hy; have e3 := i32_le hx hy; have e4 := i32_lt hy hx; have e5 := i32_le hy hx
    first | exact e1.mp z | exact fun w => z (e1.mpr w) | exact e1.mp (Decidable.byContradiction z) | exact e2.mp z | exact e3.mp z | exact e4.mp z | exact e5.mp z | exact Int.not_lt.mp (fun w => z (e2.mpr w)) | exact Int.not_lt.mp (fun w => z (e4.mpr w)) | exact Int.not_le.mp (fun w => z (e3.mpr w)) | exact Int.not_le.mp (fun w => z (e5.mpr w))
theorem y_icmp_le (n t : Nat) (C : CX E p R s m args meth c cc nL own mc ms ret) {x y : Int} {off : Int} (d : decode cc pc = .ok (.if_icmp .le off, 3)) (hn : pc + 3 = n) (ht : (pc : Int) + off = (t : Int)) (hx : InR x) (hy : InR y)
    (kt : x ≤ y → YW E p l e R s m args below meth c nL mc ms Q G kc ks t L st) (kf : y < x → YW E p l e R s m args below meth c nL mc ms Q G kc ks n L st) : YW E p l e R s m args below meth c nL mc ms Q G kc ks pc L (.int (i32 y) :: .int (i32 x) :: st) := by
  subst hn
  intro H locs cells slots ls h1 h2 h3 h4 h5
  refine lv_icmp_le C.1 C.2.1 d ht (fun z => kt ?_ H locs cells slots ls h1 h2 h3 h4 h5) (fun z => kf ?_ H locs cells slots ls h1 h2 h3 h4 h5)
  · have e1 := i32_eq hx hy; have e2 := i32_lt hx hy; have e3 := i32_le hx hy; have e4 := i32_lt hy hx; have e5 := i32_le hy hx
    first | exact e1.mp z | exact fun w => z (e1.mpr w) | exact e1.mp (Decidable.byContradiction z) | exact e2.mp z | exact e3.mp z | exact e4.mp z | exact e5.mp z | exact Int.not_lt.mp (fun w => z (e2.mpr w)) | exact Int.not_lt.mp (fun w => z (e4.mpr w)) | exact Int.not_le.mp (fun w => z (e3.mpr w)) | exact Int.not_le.mp (fun w => z (e5.mpr w))
  · have e1 := i32_eq hx hy; have e2 := i32_lt hx hy; have e3 := i32_le hx hy; have e4 := i32_lt hy hx; have e5 := i32_le hy hx
    first | exact e1.mp z | exact fun w => z (e1.mpr w) | exact e1.mp (Decidable.byContradiction z) | exact e2.mp z | exact e3.mp z | exact e4.mp z | exact e5.mp z | exact Int.not_lt.mp (fun w => z (e2.mpr w)) | exact Int.not_lt.mp (fun w => z (e4.mpr w)) | exact Int.not_le.mp (fun w => z (e3.mpr w)) | exact Int.not_le.mp (fun w => z (e5.mpr w))
theorem y_if_eq (n t : Nat) (C : CX E p R s m args meth c cc nL own mc ms ret) {x : Int} {off : Int} (d : decode cc pc = .ok (.ifCond .eq off, 3)) (hn : pc + 3 = n) (ht : (pc : Int) + off = (t : Int)) (hx : InR x)
    (kt : x = 0 → YW E p l e R s m args below meth c nL mc ms Q G kc ks t L st) (kf : ¬ x = 0 → YW E p l e R s m args below meth c nL mc ms Q G kc ks n L st) : YW E p l e R s m args below meth c nL mc ms Q G kc ks pc L (.int (i32 x) :: st) := by
  subst hn
  have hy : InR 0 := ⟨by omega, by omega⟩
  intro H locs cells slots ls h1 h2 h3 h4 h5
  refine lv_if_eq C.1 C.2.1 d ht (fun z => kt ?_ H locs cells slots ls h1 h2 h3 h4 h5) (fun z => kf ?_ H locs cells slots ls h1 h2 h3 h4 h5)
  · have e1 := i32_eq hx hy; have e2 := i32_lt hx hy; have e3 := i32_le hx hy; have e4 := i32_lt hy hx; have e5 := i32_le hy hx
    rw [i32_0] at z
    first | exact e1.mp z | exact fun w => z (e1.mpr w) | exact e1.mp (Decidable.byContradiction z) | exact e2.mp z | exact e3.mp z | exact e4.mp z | exact e5.mp z | exact Int.not_lt.mp (fun w => z (e2.mpr w)) | exact Int.not_lt.mp (fun w => z (e4.mpr w)) | exact Int.not_le.mp (fun w => z (e3.mpr w)) | exact Int.not_le.mp (fun w => z (e5.mpr w))
  · have e1 := i32_eq hx hy; have e2 := i32_lt hx hy; have e3 := i32_le hx hy; have e4 := i32_lt hy hx; have e5 := i32_le hy hx
    rw [i32_0] at z
    first | exact e1.mp z | exact fun w => z (e1.mpr w) | exact e1.mp (Decidable.byContradiction z) | exact e2.mp z | exact e3.mp z | exact e4.mp z | exact e5.mp z | exact Int.not_lt.mp (fun w => z (e2.mpr w)) | exact Int.not_lt.mp (fun w => z (e4.mpr w)) | exact Int.not_le.mp (fun w => z (e3.mpr w)) | exact Int.not_le.mp (fun w => z (e5.mpr w))
theorem y_if_ne (n t : Nat) (C : CX E p R s m args meth c cc nL own mc ms ret) {x : Int} {off : Int} (d : decode cc pc = .ok (.ifCond .ne off, 3)) (hn : pc + 3 = n) (ht : (pc : Int) + off = (t : Int)) (hx : InR x)
    (kt : ¬ x = 0 → YW E p l e R s m args below meth c nL mc ms Q G kc ks t L st) (kf : x = 0 → YW E p l e R s m args below meth c nL mc ms Q G kc ks n L st) : YW E p l e R s m args below meth c nL mc ms Q G kc ks pc L (.int (i32 x) :: st) := by
  subst hn
  have hy : InR 0 := ⟨by omega, by omega⟩
  intro H locs cells slots ls h1 h2 h3 h4 h5
  refine lv_if_ne C.1 C.2.1 d ht (fun z => kt ?_ H locs cells slots ls h1 h2 h3 h4 h5) (fun z => kf ?_ H locs cells slots ls h1 h2 h3 h4 h5)
  · have e1 := i32_eq hx hy; have e2 := i32_lt hx hy; have e3 := i32_le hx hy; have e4 := i32_lt hy hx; have e5 := i32_le hy hx
    rw [i32_0] at z
    first | exact e1.mp z | exact fun w => z (e1.mpr w) | exact e1.mp (Decidable.byContradiction z) | exact e2.mp z | exact e3.mp z | exact e4.mp z | exact e5.mp z | exact Int.not_lt.mp (fun w => z (e2.mpr w)) | exact Int.not_lt.mp (fun w => z (e4.mpr w)) | exact Int.not_le.mp (fun w => z (e3.mpr w)) | exact Int.not_le.mp (fun w => z (e5.mpr w))
  · have e1 := i32_eq hx hy; have e2 := i32_lt hx hy; have e3 := i32_le hx hy; have e4 := i32_lt hy hx; have e5 := i32_le hy hx
    rw [i32_0] at z
    first | exact e1.mp z | exact fun w => z (e1.mpr w) | exact e1.mp (Decidable.byContradiction z) | exact e2.mp z | exact e3.mp z | exact e4.mp z | exact e5.mp z | exact Int.not_lt.mp (fun w => z (e2.mpr w)) | exact Int.not_lt.mp (fun w => z (e4.mpr w)) | exact Int.not_le.mp (fun w => z (e3.mpr w)) | exact Int.not_le.mp (fun w => z (e5.mpr w))
theorem y_if_lt (n t : Nat) (C : CX E p R s m args meth c cc nL own mc ms ret) {x : Int} {off : Int} (d : decode cc pc = .ok (.ifCond .lt off, 3)) (hn : pc + 3 = n) (ht : (pc : Int) + off = (t : Int)) (hx : InR x)
    (kt : x < 0 → YW E p l e R s m args below meth c nL mc ms Q G kc ks t L st) (kf : 0 ≤ x → YW E p l e R s m args below meth c nL mc ms Q G kc ks n L st) : YW E p l e R s m args below meth c nL mc ms Q G kc ks pc L (.int (i32 x) :: st) := by
  subst hn
  have hy : InR 0 := ⟨by omega, by omega⟩
  intro H locs cells slots ls h1 h2 h3 h4 h5
  refine lv_if_lt C.1 C.2.1 d ht (fun z => kt ?_ H locs cells slots ls h1 h2 h3 h4 h5) (fun z => kf ?_ H locs cells slots ls h1 h2 h3 h4 h5)
  · have e1 := i32_eq hx hy; have e2 := i32_lt hx hy; have e3 := i32_le hx hy; have e4 := i32_lt hy hx; have e5 := i32_le hy hx
    rw [i32_0] at z
    first | exact e1.mp z | exact fun w => z (e1.mpr w) | exact e1.mp (Decidable.byContradiction z) | exact e2.mp z | exact e3.mp z | exact e4.mp z | exact e5.mp z | exact Int.not_lt.mp (fun w => z (e2.mpr w)) | exact Int.not_lt.mp (fun w => z (e4.mpr w)) | exact Int.not_le.mp (fun w => z (e3.mpr w)) | exact Int.not_le.mp (fun w => z (e5.mpr w))
  · have e1 := i32_eq hx hy; have e2 := i32_lt hx hy; have e3 := i32_le hx hy; have e4 := i32_lt hy hx; have e5 := i32_le hy hx
    rw [i32_0] at z
    first | exact e1.mp z | exact fun w => z (e1.mpr w) | exact e1.mp (Decidable.byContradiction z) | exact e2.mp z | exact e3.mp z | exact e4.mp z | exact e5.mp z | exact Int.not_lt.mp (fun w => z (e2.mpr w)) | exact Int.not_lt.mp (fun w => z (e4.mpr w)) | exact Int.not_le.mp (fun w => z (e3.mpr w)) | exact Int.not_le.mp (fun w => z (e5.mpr w))
theorem y_if_ge (n t : Nat) (C : CX E p R s m args meth c cc nL own mc ms ret) {x : Int} {off : Int} (d : decode cc pc = .ok (.ifCond .ge off, 3)) (hn : pc + 3 = n) (ht : (pc : Int) + off = (t : Int)) (hx : InR x)
    (kt : 0 ≤ x → YW E p l e R s m args below meth c nL mc ms Q G kc ks t L st) (kf : x < 0 → YW E p l e R s m args below meth c nL mc ms Q G kc ks n L st) : YW E p l e R s m args below meth c nL mc ms Q G kc ks pc L (.int (i32 x) :: st) := by
  subst hn
  have hy : InR 0 := ⟨by omega, by omega⟩
  intro H locs cells slots ls h1 h2 h3 h4 h5
  refine lv_if_ge C.1 C.2.1 d ht (fun z => kt ?_ H locs cells slots ls h1 h2 h3 h4 h5) (fun z => kf ?_ H locs cells slots ls h1 h2 h3 h4 h5)
  · have e1 := i32_eq hx hy; have e2 := i32_lt hx hy; have e3 := i32_le hx hy; have e4 := i32_lt hy hx; have e5 := i32_le hy hx
    rw [i32_0] at z
    first | exact e1.mp z | exact fun w => z (e1.mpr w) | exact e1.mp (Decidable.byContradiction z) | exact e2.mp z | exact e3.mp z | exact e4.mp z | exact e5.mp z | exact Int.not_lt.mp (fun w => z (e2.mpr w)) | exact Int.not_lt.mp (fun w => z (e4.mpr w)) | exact Int.not_le.mp (fun w => z (e3.mpr w)) | exact Int.not_le.mp (fun w => z (e5.mpr w))
  · have e1 := i32_eq hx hy; have e2 := i32_lt hx hy; have e3 := i32_le hx hy; have e4 := i32_lt hy hx; have e5 := i32_le hy hx
    rw [i32_0] at z
    first | exact e1.mp z | exact fun w => z (e1.mpr w) | exact e1.mp (Decidable.byContradiction z) | exact e2.mp z | exact e3.mp z | exact e4.mp z | exact e5.mp z | exact Int.not_lt.mp (fun w => z (e2.mpr w)) | exact Int.not_lt.mp (fun w => z (e4.mpr w)) | exact Int.not_le.mp (fun w => z (e3.mpr w)) | exact Int.not_le.mp (fun w => z (e5.mpr w))
theorem y_if_gt (n t : Nat) (C : CX E p R s m args meth c cc nL own mc ms ret) {x : Int} {off : Int} (d : decode cc pc = .ok (.ifCond .gt off, 3)) (hn : pc + 3 = n) (ht : (pc : Int) + off = (t : Int)) (hx : InR x)
    (kt : 0 < x → YW E p l e R s m args below meth c nL mc ms Q G kc ks t L st) (kf : x ≤ 0 → YW E p l e R s m args below meth c nL mc ms Q G kc ks n L st) : YW E p l e R s m args below meth c nL mc ms Q G kc ks pc L (.int (i32 x) :: st) := by
  subst hn
  have hy : InR 0 := ⟨by omega, by omega⟩
  intro H locs cells slots ls h1 h2 h3 h4 h5
  refine lv_if_gt C.1 C.2.1 d ht (fun z => kt ?_ H locs cells slots ls h1 h2 h3 h4 h5) (fun z => kf ?_ H locs cells slots ls h1 h2 h3 h4 h5)
  · have e1 := i32_eq hx hy; have e2 := i32_lt hx hy; have e3 := i32_le hx hy; have e4 := i32_lt hy hx; have e5 := i32_le hy hx
    rw [i32_0] at z
    first | exact e1.mp z | exact fun w => z (e1.mpr w) | exact e1.mp (Decidable.byContradiction z) | exact e2.mp z | exact e3.mp z | exact e4.mp z | exact e5.mp z | exact Int.not_lt.mp (fun w => z (e2.mpr w)) | exact Int.not_lt.mp (fun w => z (e4.mpr w)) | exact Int.not_le.mp (fun w => z (e3.mpr w)) | exact Int.not_le.mp (fun w => z (e5.mpr w))
  · have e1 := i32_eq hx hy; have e2 := i32_lt hx hy; have e3 := i32_le hx hy; have e4 := i32_lt hy hx; have e5 := i32_le hy hx
    rw [i32_0] at z
    first | exact e1.mp z | exact fun w => z (e1.mpr w) | exact e1.mp (Decidable.byContradiction z) | exact e2.mp z | exact e3.mp z | exact e4.mp z | exact e5.mp z | exact Int.not_lt.mp (fun w => z (e2.mpr w)) | exact Int.not_lt.mp (fun w => z (e4.mpr w)) | exact Int.not_le.mp (fun w => z (e3.mpr w)) | exact Int.not_le.mp (fun w => z (e5.mpr w))
theorem y_if_le (n t : Nat) (C : CX E p R s m args meth c cc nL own mc ms ret) {x : Int} {off : Int} (d : decode cc pc = .ok (.ifCond .le off, 3)) (hn : pc + 3 = n) (ht : (pc : Int) + off = (t : Int)) (hx : InR x)
    (kt : x ≤ 0 → YW E p l e R s m args below meth c nL mc ms Q G kc ks t L st) (kf : 0 < x → YW E p l e R s m args below meth c nL mc ms Q G kc ks n L st) : YW E p l e R s m args below meth c nL mc ms Q G kc ks pc L (.int (i32 x) :: st) := by
  subst hn
  have hy : InR 0 := ⟨by omega, by omega⟩
  intro H locs cells slots ls h1 h2 h3 h4 h5
  refine lv_if_le C.1 C.2.1 d ht (fun z => kt ?_ H locs cells slots ls h1 h2 h3 h4 h5) (fun z => kf ?_ H locs cells slots ls h1 h2 h3 h4 h5)
  · have e1 := i32_eq hx hy; have e2 := i32_lt hx hy; have e3 := i32_le hx hy; have e4 := i32_lt hy hx; have e5 := i32_le hy hx
    rw [i32_0] at z
    first | exact e1.mp z | exact fun w => z (e1.mpr w) | exact e1.mp (Decidable.byContradiction z) | exact e2.mp z | exact e3.mp z | exact e4.mp z | exact e5.mp z | exact Int.not_lt.mp (fun w => z (e2.mpr w)) | exact Int.not_lt.mp (fun w => z (e4.mpr w)) | exact Int.not_le.mp (fun w => z (e3.mpr w)) | exact Int.not_le.mp (fun w => z (e5.mpr w))
  · have e1 := i32_eq hx hy; have e2 := i32_lt hx hy; have e3 := i32_le hx hy; have e4 := i32_lt hy hx; have e5 := i32_le hy hx
    rw [i32_0] at z
    first | exact e1.mp z | exact fun w => z (e1.mpr w) | exact e1.mp (Decidable.byContradiction z) | exact e2.mp z | exact e3.mp z | exact e4.mp z | exact e5.mp z | exact Int.not_lt.mp (fun w => z (e2.mpr w)) | exact Int.not_lt.mp (fun w => z (e4.mpr w)) | exact Int.not_le.mp (fun w => z (e3.mpr w)) | exact Int.not_le.mp (fun w => z (e5.mpr w))
end YB
section YC1
variable {E : EV} {p : Program} {l : Launch} {e : Env} {R : Room} {s : State} {m : MethodId} {args : Array Value} {below : List Frame} {meth : Method} {c : Code} {cc : ByteArray} {nL mc ms : Nat} {own : String} {ret : Option FieldType} {Q : State → Prop} {G : FT} {kc ks pc : Nat} {L : List (Option Value)} {st : List Value} {H : Heap} {locs : List Loc}
theorem wf_of (C : CX E p R s m args meth c cc nL own mc ms ret) (h1 : hf E G H) (h2 : va_S (bA E) s.heap H locs) {t : State} (ht : t.heap = H) (hW : s.WarmedH t.vm) : WF E G t := by
  obtain ⟨-, -, -, -, -, hK, hST, hsz, -, -, -, hNW⟩ := C
  refine ⟨hK.moved hW.alike, ?_, ?_, by rw [ht]; exact h1, nw_warm hW hNW⟩
  · rw [ht]
    exact (hST.moved hW).kept h2.2.1
  · rw [ht]
    exact Nat.le_trans hsz h2.1
theorem wf_blind {av : List Value} : FrameBlind (PR E av G) := fun a U g mk q => by
  obtain ⟨q1, q2, q3, q4, q5, q6⟩ := q
  exact ⟨q1, va_K.moved (u := U) (U := U.calling g mk a) (Vm.Alike.refl U.vm) q2, ST.same (u := U) (U := U.calling g mk a) rfl q3, q4, q5, nw_same (u := U) (U := U.calling g mk a) rfl q6⟩
/-- a return of a number -/
theorem y_iret {post : Option Value → FT → Prop} {v : Int} {ty : FieldType} (C : CX E p R s m args meth c cc nL own mc ms (some ty)) (d : decode cc pc = .ok (.ireturn, 1)) (hn : narrow ty (.int (i32 v)) = .int (i32 v)) (hq : post (some (.int (i32 v))) G) :
    YW E p l e R s m args below meth c nL mc ms (MRQ E below args s mc ms post) G kc ks pc L [.int (i32 v)] := by
  intro H locs cells slots ls h1 h2 h3 h4 h5
  refine W.widen (k := mc) (n := ms) (by omega) (by omega) ?_
  exact W.zret C.1 C.2.1 C.2.2.2.2.2.2.2.2.2.1 hn (fun t ht hW => ⟨⟨_, G, rfl, wf_of C h1 h2 ht hW, hq⟩, h2.F ht⟩) h2.2.2 d C.2.2.2.2.2.2.2.2.2.2.1
theorem y_ret {post : Option Value → FT → Prop} (C : CX E p R s m args meth c cc nL own mc ms none) (d : decode cc pc = .ok (.return_, 1)) (hq : post none G) :
    YW E p l e R s m args below meth c nL mc ms (MRQ E below args s mc ms post) G kc ks pc L [] := by
  intro H locs cells slots ls h1 h2 h3 h4 h5
  refine W.widen (k := mc) (n := ms) (by omega) (by omega) ?_
  exact W.vret C.1 C.2.1 C.2.2.2.2.2.2.2.2.2.1 (fun t ht hW => ⟨⟨_, G, rfl, wf_of C h1 h2 ht hW, hq⟩, h2.F ht⟩) h2.2.2 d C.2.2.2.2.2.2.2.2.2.2.1
theorem y_aret {post : Option Value → FT → Prop} {r : Option Nat} {ty : FieldType} (C : CX E p R s m args meth c cc nL own mc ms (some ty)) (d : decode cc pc = .ok (.areturn, 1)) (hn : tyk ty = 2) (hq : post (some (va_rf r)) G) :
    YW E p l e R s m args below meth c nL mc ms (MRQ E below args s mc ms post) G kc ks pc L [va_rf r] := by
  intro H locs cells slots ls h1 h2 h3 h4 h5
  refine W.widen (k := mc) (n := ms) (by omega) (by omega) ?_
  refine W.aret C.1 C.2.1 C.2.2.2.2.2.2.2.2.2.1 ?_ ?_ (fun t ht hW => ⟨⟨_, G, rfl, wf_of C h1 h2 ht hW, hq⟩, h2.F ht⟩) h2.2.2 d C.2.2.2.2.2.2.2.2.2.2.1
  · cases ty <;> simp [tyk] at hn
    · exact Or.inl ⟨_, rfl⟩
    · exact Or.inr ⟨_, rfl⟩
  · cases r
    · exact Or.inl rfl
    · exact Or.inr ⟨_, rfl⟩
end YC1
/-- a method from its body -/
theorem mr_of {E : EV} {l : Launch} {y : MethodName} {cc : ByteArray} {nL : Nat} {ret : Option FieldType} {fr lo mc ms : Nat} {av : List Value} {G : FT} {post : Option Value → FT → Prop} {own : String} {L : List (Option Value)}
    (hy : plainName y.cls = true) (ho : y.cls = own) (hs : (lg_sl av).length ≤ nL) (hc : ∀ v ∈ av, v.category = 1) (hL : av.map some ++ List.replicate (nL - av.length) none = L)
    (body : ∀ (p : Program) (e : Env) (s : State) (m : MethodId) (args : Array Value) (below : List Frame) (meth : Method) (c : Code), CX E p ({ frames := fr, cells := mc, slots := ms, locals := lo } : Room) s m args meth c cc nL own mc ms ret → meth.name = y.name →
      YW E p l e ({ frames := fr, cells := mc, slots := ms, locals := lo } : Room) s m args below meth c nL mc ms (MRQ E below args s mc ms post) G mc ms 0 L []) : MR E l y cc nL ret fr lo mc ms av G post := by
  refine Met.ofW (cc := cc) (maxL := nL) (ret := ret) hy rfl ?_
  intro p e s m args below meth c s₁ B hml hv
  obtain ⟨rfl, hK, hST, hsz, hp1, hNW⟩ := hv
  have hts := atoms_spec (ws := wsm y cc nL ret) B.pre
  have hown : s.vm.findClass own = some m.cls := by rw [← ho]; exact findClass_of_methodNamed B.named
  have hin : meth.name = y.name := (name_of_methodNamed B.named B.method).1
  have C : CX E p ({ frames := fr, cells := mc, slots := ms, locals := lo } : Room) s m av.toArray meth c cc nL own mc ms ret := ⟨B.exec, B.bytes, hml, hown, fun w hw => hts w (List.mem_cons_of_mem _ hw), hK, hST, hsz, ⟨Nat.le_refl _, Nat.le_refl _⟩, B.returns, B.notSynchronized, hNW⟩
  have hl := lv_entry av (n := nL) hs
  rw [lg_entry_eq]
  exact body p e s m av.toArray below meth c C hin s.heap [] 0 0 _ hp1 va_S.rf (XL.args hl hc L hL) (by omega) (by omega)
section YC2
variable {E : EV} {p : Program} {l : Launch} {e : Env} {R : Room} {s : State} {m : MethodId} {args : Array Value} {below : List Frame} {meth : Method} {c : Code} {cc : ByteArray} {nL mc ms : Nat} {own : String} {ret : Option FieldType} {Q : State → Prop} {G : FT} {kc ks pc : Nat} {L : List (Option Value)} {st st0 : List Value} {H : Heap} {locs : List Loc} {cells slots : Nat} {ls : Array Slot}
variable {y : MethodName} {cc1 : ByteArray} {nL1 : Nat} {ret1 : Option FieldType} {fr1 lo1 mc1 ms1 idx b : Nat} {As : List Value} {post : Option Value → FT → Prop} {xp : String → FT → Prop} {a : Array Value}
theorem w_callY (hr : va_Run p l e R s m args below meth c H locs cells slots mc1 ms1 (F0 m pc ls st0) st (QR E post a) (bA E)) (hS : va_S (bA E) s.heap H locs) (hb : E.2.2.1 ≤ s.heap.size)
    (kk : ∀ (v : Option Value) (G' : FT) (H1 : Heap) (locs1 : List Loc), hf E G' H1 → va_S (bA E) s.heap H1 locs1 → post v G' → W p l e R s m args below meth c H1 locs1 (cells + mc1) (slots + ms1) Q (F0 m (pc + 3) ls (v.toList ++ st))) : W p l e R s m args below meth c H locs cells slots Q (F0 m pc ls st0) := by
  intro T hT X
  obtain ⟨v, st₀, t, T', L, h0, X', hL, e1, e2, ⟨⟨v', G', hv, hw, hp⟩, hz, hk⟩, st⟩ := hr T hT X
  cases hv
  rw [h0] at hz hk
  have hS1 : va_S (bA E) s.heap T'.heap (locs ++ L) := ⟨Nat.le_trans hS.1 (by rw [e1]; exact hz), fun q h1 h2 => by rw [e1, hk q (Nat.lt_of_lt_of_le h1 hS.1) h2]; exact hS.2.1 q h1 h2, fun q hq => by
      rcases List.mem_append.mp hq with h | h
      · exact hS.2.2 q h
      · exact hL q h⟩
  obtain ⟨t2, a1, b1⟩ := kk v G' T'.heap (locs ++ L) (by rw [e1]; exact hw.2.2.2.1) hS1 hp T' rfl X'
  exact ⟨t2, st t2 a1, b1⟩
theorem y_recv {ci : Nat} {Cn : String} {Tn : u_T} {N : Nat} {fs : List Value} (C : CX E p R s m args meth c cc nL own mc ms ret) (h1 : hf E G H) (hk : G b = some (.inr (ci, fs))) (hc : CL[ci]? = some (Cn, Tn, N)) : ∃ cell : Cell, H[b]? = some cell ∧ cell.vm.isStatics = false ∧ s.vm.findClass Cn = some cell.cls :=
  va_recv (ws := [(b, .inr (ci, fs))]) C.2.2.2.2.2.1 (fun k q hq => by
    cases k with
    | zero => cases hq; exact (h1 b _ hk).1
    | succ k => simp at hq) (q0 := 0) hc rfl
/-- invokevirtual of a method of the receiver's own class -/
theorem y_callV (n0 ci kc' ks' : Nat) {n : Nat} {Cn : String} {Tn : u_T} {N : Nat} (C : CX E p R s m args meth c cc nL own mc ms ret) (hV : VW own idx y cc1 nL1 ret1 n) (hi : Cond.instanceMethod y ∈ AW) (hs : Cond.selects y.cls y y ∈ AW) (hM : MR E l y cc1 nL1 ret1 fr1 lo1 mc1 ms1 (.ref b :: As) G post) (d : decode cc pc = .ok (.invokevirtual idx, 3)) (hn : pc + 3 = n0)
    (hst : As.reverse ++ .ref b :: st = st0) (hlen : As.length = n) (hc : CL[ci]? = some (Cn, Tn, N)) (hy : y.cls = Cn) {fs : List Value} (hk : G b = some (.inr (ci, fs))) (hR : fr1 + 1 ≤ R.frames ∧ 8 + (nL1 + 11) + lo1 ≤ R.locals) (hw : (st.map fun v => v.category).sum ≤ 8) (hkc : kc' + mc1 ≤ kc ∧ ks' + ms1 ≤ ks)
    (kk : ∀ (v : Option Value) (G' : FT), post v G' → YW E p l e R s m args below meth c nL mc ms Q G' kc' ks' n0 L (v.toList ++ st)) : YW E p l e R s m args below meth c nL mc ms Q G kc ks pc L st0 := by
  subst hn
  subst hst
  intro H locs cells slots ls h1 h2 h3' h4 h5
  have hts := C.2.2.2.2.1
  have hrc := y_recv C h1 hk hc
  have hf : cells + mc1 ≤ R.cells ∧ slots + ms1 ≤ R.slots := ⟨Nat.le_trans (by omega) C.2.2.2.2.2.2.2.2.1.1, Nat.le_trans (by omega) C.2.2.2.2.2.2.2.2.1.2⟩
  have hp : PreV s H Cn b (PR E (.ref b :: As) G) As := ⟨wf_blind, hrc, fun U hU hW => ⟨rfl, wf_of C h1 h2 hU hW⟩⟩
  have go : va_Run p l e R s m args below meth c H locs cells slots mc1 ms1 (F0 m pc ls (As.reverse ++ .ref b :: st)) st (QR E post (Value.ref b :: As).toArray) (bA E) := by
    rcases id hV.2 with hl | ⟨host, hl⟩
    · exact va_runV (Ts := AW) ⟨C.1, C.2.1, C.2.2.1, C.2.2.2.1, hts⟩ hM ⟨w_callB C hV hR hl, hts _ hi, by rw [← hy]; exact hts _ hs⟩ hp rfl hlen h3'.1 rfl (lv_room hw) d hf
    · exact va_runVN (Ts := AW) ⟨C.1, C.2.1, C.2.2.1, C.2.2.2.1, hts⟩ hM ⟨w_callN C hV hR hl, hts _ hi, by rw [← hy]; exact hts _ hs⟩ hp rfl hlen h3'.1 rfl (lv_room hw) d hf
  exact w_callY go h2 C.2.2.2.2.2.2.2.1 (fun v G' H1 locs1 a1 a2 a3 => kk v G' a3 H1 locs1 _ _ ls a1 a2 h3' (by omega) (by omega))
/-- invokestatic -/
theorem y_callS (n0 kc' ks' : Nat) {n : Nat} (C : CX E p R s m args meth c cc nL own mc ms ret) (hV : VW own idx y cc1 nL1 ret1 n) (hi : Cond.static y ∈ AW) (hM : MR E l y cc1 nL1 ret1 fr1 lo1 mc1 ms1 As G post) (d : decode cc pc = .ok (.invokestatic idx, 3)) (hn : pc + 3 = n0)
    (hst : As.reverse ++ st = st0) (hlen : As.length = n) (hR : fr1 + 1 ≤ R.frames ∧ 8 + (nL1 + 11) + lo1 ≤ R.locals) (hw : (st.map fun v => v.category).sum ≤ 8) (hkc : kc' + mc1 ≤ kc ∧ ks' + ms1 ≤ ks)
    (kk : ∀ (v : Option Value) (G' : FT), post v G' → YW E p l e R s m args below meth c nL mc ms Q G' kc' ks' n0 L (v.toList ++ st)) : YW E p l e R s m args below meth c nL mc ms Q G kc ks pc L st0 := by
  subst hn
  subst hst
  intro H locs cells slots ls h1 h2 h3' h4 h5
  have hts := C.2.2.2.2.1
  have hf : cells + mc1 ≤ R.cells ∧ slots + ms1 ≤ R.slots := ⟨Nat.le_trans (by omega) C.2.2.2.2.2.2.2.2.1.1, Nat.le_trans (by omega) C.2.2.2.2.2.2.2.2.1.2⟩
  have hp : PreS s H (PR E As G) As := ⟨wf_blind, fun U hU hW => ⟨rfl, wf_of C h1 h2 hU hW⟩⟩
  have go : va_Run p l e R s m args below meth c H locs cells slots mc1 ms1 (F0 m pc ls (As.reverse ++ st)) st (QR E post As.toArray) (bA E) := by
    rcases id hV.2 with hl | ⟨host, hl⟩
    · exact va_runS (Ts := AW) ⟨C.1, C.2.1, C.2.2.1, C.2.2.2.1, hts⟩ hM ⟨w_callB C hV hR hl, hts _ hi⟩ hp rfl hlen h3'.1 rfl (lv_room hw) d hf
    · exact va_runSN (Ts := AW) ⟨C.1, C.2.1, C.2.2.1, C.2.2.2.1, hts⟩ hM ⟨w_callN C hV hR hl, hts _ hi, trivial⟩ hp rfl hlen h3'.1 rfl (lv_room hw) d hf
  exact w_callY go h2 C.2.2.2.2.2.2.2.1 (fun v G' H1 locs1 a1 a2 a3 => kk v G' a3 H1 locs1 _ _ ls a1 a2 h3' (by omega) (by omega))
/-- a constructor -/
theorem y_callI (n0 kc' ks' : Nat) {n : Nat} (C : CX E p R s m args meth c cc nL own mc ms ret) (hV : VW own idx y cc1 nL1 none n) (hi : Cond.instanceMethod y ∈ AW) (hy : y.name = "<init>") (hM : MR E l y cc1 nL1 none fr1 lo1 mc1 ms1 (.ref b :: As) G post) (d : decode cc pc = .ok (.invokespecial idx, 3)) (hn : pc + 3 = n0)
    (hst : As.reverse ++ .ref b :: st = st0) (hlen : As.length = n) (hR : fr1 + 1 ≤ R.frames ∧ 8 + (nL1 + 11) + lo1 ≤ R.locals) (hw : (st.map fun v => v.category).sum ≤ 8) (hkc : kc' + mc1 ≤ kc ∧ ks' + ms1 ≤ ks)
    (kk : ∀ (v : Option Value) (G' : FT), post v G' → YW E p l e R s m args below meth c nL mc ms Q G' kc' ks' n0 L (v.toList ++ st)) : YW E p l e R s m args below meth c nL mc ms Q G kc ks pc L st0 := by
  subst hn
  subst hst
  intro H locs cells slots ls h1 h2 h3' h4 h5
  have hts := C.2.2.2.2.1
  have hf : cells + mc1 ≤ R.cells ∧ slots + ms1 ≤ R.slots := ⟨Nat.le_trans (by omega) C.2.2.2.2.2.2.2.2.1.1, Nat.le_trans (by omega) C.2.2.2.2.2.2.2.2.1.2⟩
  have hp : PreS s H (PR E (.ref b :: As) G) (.ref b :: As) := ⟨wf_blind, fun U hU hW => ⟨rfl, wf_of C h1 h2 hU hW⟩⟩
  have go : va_Run p l e R s m args below meth c H locs cells slots mc1 ms1 (F0 m pc ls (As.reverse ++ .ref b :: st)) st (QR E post (Value.ref b :: As).toArray) (bA E) := by
    rcases id hV.2 with hl | ⟨host, hl⟩
    · exact va_runI (Ts := AW) ⟨C.1, C.2.1, C.2.2.1, C.2.2.2.1, hts⟩ hM ⟨w_callB C hV hR hl, hy, hts _ hi⟩ hp rfl hlen h3'.1 rfl (lv_room hw) d hf
    · exact va_runIN (Ts := AW) ⟨C.1, C.2.1, C.2.2.1, C.2.2.2.1, hts⟩ hM ⟨w_callN C hV hR hl, hy, hts _ hi⟩ hp rfl hlen h3'.1 rfl (lv_room hw) d hf
  exact w_callY go h2 C.2.2.2.2.2.2.2.1 (fun v G' H1 locs1 a1 a2 a3 => kk v G' a3 H1 locs1 _ _ ls a1 a2 h3' (by omega) (by omega))
end YC2
def pF (w : Option Value) (G1 : FT) : Option Value → FT → Prop := fun v G' => v = w ∧ G1 = G'
section YJ
variable {E : EV} {p : Program} {l : Launch} {e : Env} {R : Room} {s : State} {m : MethodId} {args : Array Value} {below : List Frame} {meth : Method} {c : Code} {cc : ByteArray} {nL mc ms : Nat} {own : String} {ret : Option FieldType} {Q : State → Prop} {G : FT} {kc ks pc : Nat} {L : List (Option Value)} {st st0 : List Value}
variable {y : MethodName} {cc1 : ByteArray} {nL1 : Nat} {ret1 : Option FieldType} {fr1 lo1 mc1 ms1 idx b : Nat} {As : List Value} {G1 : FT} {x : Value}
theorem y_join {α : Type} (q : Nat) (P : α → Prop) (G' : α → FT) (L' : α → List (Option Value)) (st' : α → List Value)
    (hJ : ∀ a, P a → YW E p l e R s m args below meth c nL mc ms Q (G' a) kc ks q (L' a) (st' a))
    (k : (∀ a, P a → YW E p l e R s m args below meth c nL mc ms Q (G' a) kc ks q (L' a) (st' a)) → YW E p l e R s m args below meth c nL mc ms Q G kc ks pc L st) : YW E p l e R s m args below meth c nL mc ms Q G kc ks pc L st := k hJ
theorem y_loop {α : Type} (μ : α → Nat) (I : α → Prop) (G' : α → FT) (L' : α → List (Option Value)) (st' : α → List Value) (a0 : α) (h0 : I a0) (hG : G' a0 = G) (hL : L' a0 = L) (hs : st' a0 = st)
    (step : ∀ a, I a → (∀ b, I b → μ b < μ a → YW E p l e R s m args below meth c nL mc ms Q (G' b) kc ks pc (L' b) (st' b)) → YW E p l e R s m args below meth c nL mc ms Q (G' a) kc ks pc (L' a) (st' a)) : YW E p l e R s m args below meth c nL mc ms Q G kc ks pc L st := by
  subst hG
  subst hL
  subst hs
  have key : ∀ (n : Nat) (a : α), μ a < n → I a → YW E p l e R s m args below meth c nL mc ms Q (G' a) kc ks pc (L' a) (st' a) := by
    intro n
    induction n with
    | zero => intro a h; omega
    | succ n ih => intro a h hI; exact step a hI (fun b hb hlt => ih b (by omega) hb)
  exact key _ a0 (Nat.lt_succ_self _) h0
theorem y_joinv (q : Nat) (P : Int → Prop) (hJ : ∀ v, P v → YW E p l e R s m args below meth c nL mc ms Q G kc ks q L (.int (i32 v) :: st))
    (k : (∀ v, P v → YW E p l e R s m args below meth c nL mc ms Q G kc ks q L (.int (i32 v) :: st)) → YW E p l e R s m args below meth c nL mc ms Q G kc ks pc L st) : YW E p l e R s m args below meth c nL mc ms Q G kc ks pc L st := k hJ
/-- the same state, told otherwise -/
theorem y_as {G' : FT} {L' : List (Option Value)} {st' : List Value} (hG : G' = G) (hL : L' = L) (hs : st' = st) (k : YW E p l e R s m args below meth c nL mc ms Q G' kc ks pc L' st') : YW E p l e R s m args below meth c nL mc ms Q G kc ks pc L st := by
  subst hG
  subst hL
  subst hs
  exact k
theorem y_if_eqB (n t : Nat) (C : CX E p R s m args meth c cc nL own mc ms ret) {q : Bool} {off : Int} (d : decode cc pc = .ok (.ifCond .eq off, 3)) (hn : pc + 3 = n) (ht : (pc : Int) + off = (t : Int))
    (kt : q = false → YW E p l e R s m args below meth c nL mc ms Q G kc ks t L st) (kf : q = true → YW E p l e R s m args below meth c nL mc ms Q G kc ks n L st) : YW E p l e R s m args below meth c nL mc ms Q G kc ks pc L (.int (i32 (bI q)) :: st) :=
  y_if_eq n t C d hn ht (bI_in q) (fun h => kt (bI_0.mp h)) (fun h => kf (by cases q; exact absurd rfl h; rfl))
theorem y_if_neB (n t : Nat) (C : CX E p R s m args meth c cc nL own mc ms ret) {q : Bool} {off : Int} (d : decode cc pc = .ok (.ifCond .ne off, 3)) (hn : pc + 3 = n) (ht : (pc : Int) + off = (t : Int))
    (kt : q = true → YW E p l e R s m args below meth c nL mc ms Q G kc ks t L st) (kf : q = false → YW E p l e R s m args below meth c nL mc ms Q G kc ks n L st) : YW E p l e R s m args below meth c nL mc ms Q G kc ks pc L (.int (i32 (bI q)) :: st) :=
  y_if_ne n t C d hn ht (bI_in q) (fun h => kt (by cases q; exact absurd rfl h; rfl)) (fun h => kf (bI_0.mp h))
theorem y_Sr (n0 : Nat) {n : Nat} (C : CX E p R s m args meth c cc nL own mc ms ret) (hV : VW own idx y cc1 nL1 ret1 n) (hi : Cond.static y ∈ AW) (hM : MR E l y cc1 nL1 ret1 fr1 lo1 0 0 As G (pF (some x) G1)) (d : decode cc pc = .ok (.invokestatic idx, 3)) (hn : pc + 3 = n0)
    (hst : As.reverse ++ st = st0) (hlen : As.length = n) (hR : fr1 + 1 ≤ R.frames ∧ 8 + (nL1 + 11) + lo1 ≤ R.locals) (hw : (st.map fun v => v.category).sum ≤ 8)
    (kk : YW E p l e R s m args below meth c nL mc ms Q G1 kc ks n0 L (x :: st)) : YW E p l e R s m args below meth c nL mc ms Q G kc ks pc L st0 :=
  y_callS n0 kc ks C hV hi hM d hn hst hlen hR hw ⟨Nat.le_refl _, Nat.le_refl _⟩ (fun v G' h => by obtain ⟨rfl, rfl⟩ := h; exact kk)
theorem y_i2c (n : Nat) (C : CX E p R s m args meth c cc nL own mc ms ret) {v : Int} (d : decode cc pc = .ok (.i2c, 1)) (hn : pc + 1 = n) (hv : 0 ≤ v ∧ v < 65536)
    (k : YW E p l e R s m args below meth c nL mc ms Q G kc ks n L (.int (i32 v) :: st)) : YW E p l e R s m args below meth c nL mc ms Q G kc ks pc L (.int (i32 v) :: st) := by
  subst hn
  intro H locs cells slots ls h1 h2 h3 h4 h5
  refine lv_i2c C.1 C.2.1 d ?_ (k H locs cells slots ls h1 h2 h3 h4 h5)
  obtain ⟨q, rfl⟩ := Int.eq_ofNat_of_zero_le hv.1
  have hq : q < 65536 := by omega
  rw [← i32_nI, pk_char, pk_tn (by omega), Nat.mod_eq_of_lt hq]
end YJ
