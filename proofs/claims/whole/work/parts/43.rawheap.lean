/-! cells of the raw picture: fields, arrays, new things, calls by way of a class above -/
abbrev aB (E : EV) (n : Nat) (g : Nat → Int32) : va_E := .inl (E.2.1 2, n, .inl g)
abbrev aO (E : EV) (n : Nat) (g : Nat → Option Nat) : va_E := .inl (E.2.1 3, n, .inr (.inr (.inr (.inr g))))
abbrev aI (E : EV) (n : Nat) (g : Nat → Int32) : va_E := .inl (E.2.1 0, n, .inl g)
theorem hf_put {E : EV} {f : FT} {H H1 : Heap} {a : Nat} {e1 : va_E} (h : hf E f H) (hb : E.2.2.1 ≤ a) (hat : va_at E.1 CL (a, e1) H1) (hq : ∀ q : Nat, q ≠ a → H1[q]? = H[q]?) : hf E (va_up f a (some e1)) H1 := by
  intro x e he
  by_cases hx : x = a
  · subst hx
    rw [up_s] at he
    cases he
    exact ⟨hat, hb⟩
  · rw [up_n hx] at he
    exact ⟨(h x e he).1.kept (hq x hx), (h x e he).2⟩
/-- a field link by way of a class that has it from above -/
def FL2 (own : String) (idx : Nat) (T : String × String × String × Bool) : Prop := ∃ rf : String, Cond.fieldLink own idx rf T.2.1 T.2.2.1 ∈ AW ∧ (Cond.sameField rf T.1 T.2.1 T.2.2.1 ∈ AW)
section YF
variable {E : EV} {p : Program} {l : Launch} {e : Env} {R : Room} {s : State} {m : MethodId} {args : Array Value} {below : List Frame} {meth : Method} {c : Code} {cc : ByteArray} {nL mc ms : Nat} {own : String} {ret : Option FieldType} {Q : State → Prop} {G G' : FT} {kc ks pc : Nat} {L : List (Option Value)} {st : List Value}
theorem y_getf (n : Nat) {ci j idx a : Nat} {fs : List Value} {v : Value} (C : CX E p R s m args meth c cc nL own mc ms ret) (F : FR own idx ci j) (hg : G a = some (.inr (ci, fs))) (hj : fs[j]? = some v) (d : decode cc pc = .ok (.getfield idx, 3)) (hn : pc + 3 = n)
    (k : YW E p l e R s m args below meth c nL mc ms Q G kc ks n L (v :: st)) : YW E p l e R s m args below meth c nL mc ms Q G kc ks pc L (.ref a :: st) := by
  subst hn
  intro H locs cells slots ls h1 h2 h3 h4 h5
  exact w_getf C F (h1 a _ hg).1 hj d (k H locs cells slots ls h1 h2 h3 h4 h5)
theorem y_putf (n tk : Nat) {ci j idx a : Nat} {fs : List Value} {v : Value} (C : CX E p R s m args meth c cc nL own mc ms ret) (F : FW own idx ci j tk false) (hg : G a = some (.inr (ci, fs))) (hl : j < fs.length) (hfit : ∀ ty, tyk ty = tk → narrow ty v = v ∧ fits ty v = true) (d : decode cc pc = .ok (.putfield idx, 3)) (hn : pc + 3 = n) (hG : va_up G a (some (.inr (ci, fs.set j v))) = G')
    (k : YW E p l e R s m args below meth c nL mc ms Q G' kc ks n L st) : YW E p l e R s m args below meth c nL mc ms Q G kc ks pc L (v :: .ref a :: st) := by
  subst hn
  subst hG
  intro H locs cells slots ls h1 h2 h3 h4 h5
  exact w_putf C F (h1 a _ hg).1 hl hfit d (fun H1 sl a1 a2 a3 => k H1 _ cells slots ls (hf_put h1 (h1 a _ hg).2 a1 a3) (h2.put a2 a3 (h1 a _ hg).2) h3 h4 h5)
theorem y_putF (n tk : Nat) {ci j idx a : Nat} {fs : List Value} {v : Value} (C : CX E p R s m args meth c cc nL own mc ms ret) (F : FW own idx ci j tk true) (hin : meth.name = "<init>") (hg : G a = some (.inr (ci, fs))) (hl : j < fs.length) (hfit : ∀ ty, tyk ty = tk → narrow ty v = v ∧ fits ty v = true) (d : decode cc pc = .ok (.putfield idx, 3)) (hn : pc + 3 = n) (hG : va_up G a (some (.inr (ci, fs.set j v))) = G')
    (k : YW E p l e R s m args below meth c nL mc ms Q G' kc ks n L st) : YW E p l e R s m args below meth c nL mc ms Q G kc ks pc L (v :: .ref a :: st) := by
  subst hn
  subst hG
  intro H locs cells slots ls h1 h2 h3 h4 h5
  exact w_putF C F hin (h1 a _ hg).1 hl hfit d (fun H1 sl a1 a2 a3 => k H1 _ cells slots ls (hf_put h1 (h1 a _ hg).2 a1 a3) (h2.put a2 a3 (h1 a _ hg).2) h3 h4 h5)
/-- modCount, by the name of the class below -/
theorem y_getM (n : Nat) {idx a : Nat} {fs : List Value} {v : Value} (C : CX E p R s m args meth c cc nL own mc ms ret) (hin : ∀ w ∈ u_ws RJx4a65c TJx4a65c 3, w ∈ AW) (F : FL2 own idx (TJx4a65c 0)) (hg : G a = some (.inr (2, fs))) (hj : fs[0]? = some v) (d : decode cc pc = .ok (.getfield idx, 3)) (hn : pc + 3 = n)
    (k : YW E p l e R s m args below meth c nL mc ms Q G kc ks n L (v :: st)) : YW E p l e R s m args below meth c nL mc ms Q G kc ks pc L (.ref a :: st) := by
  subst hn
  intro H locs cells slots ls h1 h2 h3 h4 h5
  obtain ⟨rf, f1, f2⟩ := F
  have hts := C.2.2.2.2.1
  obtain ⟨ws, w1, w2, w3, w4⟩ := hf_ws h1
  obtain ⟨k0, e0⟩ := w3 a _ hg
  exact va_get C.1 C.2.1 hts hin C.2.2.2.1 C.2.2.2.2.2.1 w1 k0 e0 rfl 0 (by decide) (hts _ f1) (fun x h9 => u_same (hts _ f2) x h9) hj d (k H locs cells slots ls h1 h2 h3 h4 h5)
theorem y_putM (n : Nat) {idx a : Nat} {fs : List Value} {v : Int32} (C : CX E p R s m args meth c cc nL own mc ms ret) (hin : ∀ w ∈ u_ws RJx4a65c TJx4a65c 3, w ∈ AW) (F : FL2 own idx (TJx4a65c 0)) (hg : G a = some (.inr (2, fs))) (hl : 0 < fs.length) (d : decode cc pc = .ok (.putfield idx, 3)) (hn : pc + 3 = n) (hG : va_up G a (some (.inr (2, fs.set 0 (.int v)))) = G')
    (k : YW E p l e R s m args below meth c nL mc ms Q G' kc ks n L st) : YW E p l e R s m args below meth c nL mc ms Q G kc ks pc L (.int v :: .ref a :: st) := by
  subst hn
  subst hG
  intro H locs cells slots ls h1 h2 h3 h4 h5
  obtain ⟨rf, f1, f2⟩ := F
  have hts := C.2.2.2.2.1
  obtain ⟨ws, w1, w2, w3, w4⟩ := hf_ws h1
  obtain ⟨k0, e0⟩ := w3 a _ hg
  exact va_put (ty := .int) C.1 C.2.1 hts hin tyJx4a65c tyJx4a65c_ok nmJx4a65c C.2.2.2.1 C.2.2.2.2.2.1 w1 w2 h2 k0 e0 rfl 0 (by decide) (hts _ f1) (fun x h9 => u_same (hts _ f2) x h9) rfl rfl rfl rfl hl d (fun H1 locs1 p1 d1 s1 => k H1 locs1 cells slots ls (hf_set w3 e0 h1.lo hg p1) s1 h3 h4 h5)
theorem y_alen (n t0 : Nat) {a : Nat} {cA : ClassId} {x : vp_A} {ty : FieldType} (C : CX E p R s m args meth c cc nL own mc ms ret) (hg : G a = some (.inl (cA, x))) (ht : (tyE E)[t0]? = some (cA, ty)) (d : decode cc pc = .ok (.arraylength, 1)) (hn : pc + 1 = n)
    (k : YW E p l e R s m args below meth c nL mc ms Q G kc ks n L (.int (i32 (x.1 : Int)) :: st)) : YW E p l e R s m args below meth c nL mc ms Q G kc ks pc L (.ref a :: st) := by
  subst hn
  intro H locs cells slots ls h1 h2 h3 h4 h5
  obtain ⟨ws, w1, w2, w3, w4⟩ := hf_ws h1
  obtain ⟨k0, e0⟩ := w3 a _ hg
  exact va_alen C.1 C.2.1 C.2.2.2.2.2.1 w1 k0 t0 e0 ht (i32_nI _) d (k H locs cells slots ls h1 h2 h3 h4 h5)
theorem y_aald (n : Nat) {a N : Nat} {g : Nat → Option Nat} {x : Int} (C : CX E p R s m args meth c cc nL own mc ms ret) (hg : G a = some (aO E N g)) (hx : 0 ≤ x ∧ x < N ∧ N < 2147483648) (d : decode cc pc = .ok (.aaload, 1)) (hn : pc + 1 = n)
    (k : YW E p l e R s m args below meth c nL mc ms Q G kc ks n L (va_rf (g x.toNat) :: st)) : YW E p l e R s m args below meth c nL mc ms Q G kc ks pc L (.int (i32 x) :: .ref a :: st) := by
  subst hn
  intro H locs cells slots ls h1 h2 h3 h4 h5
  have hr : InR x := ⟨by omega, by omega⟩
  obtain ⟨ws, w1, w2, w3, w4⟩ := hf_ws h1
  obtain ⟨k0, e0⟩ := w3 a _ hg
  exact va_aldq C.1 C.2.1 C.2.2.2.2.2.1 w1 k0 3 e0 rfl (i32_idx hr hx.1 hx.2.1) d (by rw [i32_clamp hr hx.1]; exact k H locs cells slots ls h1 h2 h3 h4 h5)
theorem y_aastN (n : Nat) {a N : Nat} {g : Nat → Option Nat} {x : Int} (C : CX E p R s m args meth c cc nL own mc ms ret) (hg : G a = some (aO E N g)) (hx : 0 ≤ x ∧ x < N ∧ N < 2147483648) (d : decode cc pc = .ok (.aastore, 1)) (hn : pc + 1 = n) (hG : va_up G a (some (aO E N (va_up g x.toNat none))) = G')
    (k : YW E p l e R s m args below meth c nL mc ms Q G' kc ks n L st) : YW E p l e R s m args below meth c nL mc ms Q G kc ks pc L (.null :: .int (i32 x) :: .ref a :: st) := by
  subst hn
  subst hG
  intro H locs cells slots ls h1 h2 h3 h4 h5
  have hr : InR x := ⟨by omega, by omega⟩
  obtain ⟨ws, w1, w2, w3, w4⟩ := hf_ws h1
  obtain ⟨k0, e0⟩ := w3 a _ hg
  refine va_astqN C.1 C.2.1 C.2.2.2.2.2.1 w1 w2 h2 k0 3 e0 rfl (i32_idx hr hx.1 hx.2.1) d (fun H1 locs1 p1 d1 s1 => ?_)
  rw [i32_clamp hr hx.1] at p1
  exact k H1 locs1 cells slots ls (hf_set w3 e0 h1.lo hg p1) s1 h3 h4 h5
/-- an object goes into a row of objects: its class is one of the program's -/
theorem y_aast (n : Nat) {a N v ci NN : Nat} {Cn : String} {Tn : u_T} {fs : List Value} {g : Nat → Option Nat} {x : Int} (C : CX E p R s m args meth c cc nL own mc ms ret) (hg : G a = some (aO E N g)) (hv : G v = some (.inr (ci, fs))) (hc : CL[ci]? = some (Cn, Tn, NN)) (hw : Cond.castable Cn "java/lang/Object" ∈ NW) (hx : 0 ≤ x ∧ x < N ∧ N < 2147483648) (d : decode cc pc = .ok (.aastore, 1)) (hn : pc + 1 = n) (hG : va_up G a (some (aO E N (va_up g x.toNat (some v)))) = G')
    (k : YW E p l e R s m args below meth c nL mc ms Q G' kc ks n L st) : YW E p l e R s m args below meth c nL mc ms Q G kc ks pc L (.ref v :: .int (i32 x) :: .ref a :: st) := by
  subst hn
  subst hG
  intro H locs cells slots ls h1 h2 h3 h4 h5
  have hr : InR x := ⟨by omega, by omega⟩
  obtain ⟨ws, w1, w2, w3, w4⟩ := hf_ws h1
  obtain ⟨k0, e0⟩ := w3 a _ hg
  obtain ⟨k1, e1⟩ := w3 v _ hv
  have hA : va_Any "java/lang/Object" s H v := va_rAny C.2.2.2.2.2.1 w1 e1 hc (fun comp c0 q1 q2 => vb_asgC (C.2.2.2.2.2.2.2.2.2.2.2 _ hw) comp c0 q1 q2)
  refine va_astqM C.1 C.2.1 C.2.2.2.2.2.1 w1 w2 h2 k0 3 e0 rfl hA (i32_idx hr hx.1 hx.2.1) d (fun H1 locs1 p1 d1 s1 => ?_)
  rw [i32_clamp hr hx.1] at p1
  exact k H1 locs1 cells slots ls (hf_set w3 e0 h1.lo hg p1) s1 h3 h4 h5
theorem y_bald (n : Nat) {a N : Nat} {g : Nat → Int32} {x : Int} (C : CX E p R s m args meth c cc nL own mc ms ret) (hg : G a = some (aB E N g)) (hx : 0 ≤ x ∧ x < N ∧ N < 2147483648) (d : decode cc pc = .ok (.baload, 1)) (hn : pc + 1 = n)
    (k : YW E p l e R s m args below meth c nL mc ms Q G kc ks n L (.int (g x.toNat) :: st)) : YW E p l e R s m args below meth c nL mc ms Q G kc ks pc L (.int (i32 x) :: .ref a :: st) := by
  subst hn
  intro H locs cells slots ls h1 h2 h3 h4 h5
  have hr : InR x := ⟨by omega, by omega⟩
  obtain ⟨ws, w1, w2, w3, w4⟩ := hf_ws h1
  obtain ⟨k0, e0⟩ := w3 a _ hg
  exact va_bald C.1 C.2.1 C.2.2.2.2.2.1 w1 k0 2 e0 rfl (i32_idx hr hx.1 hx.2.1) d (by rw [i32_clamp hr hx.1]; exact k H locs cells slots ls h1 h2 h3 h4 h5)
theorem y_bast (n : Nat) {a N : Nat} {g : Nat → Int32} {x : Int} {v w : Int32} (C : CX E p R s m args meth c cc nL own mc ms ret) (hg : G a = some (aB E N g)) (hx : 0 ≤ x ∧ x < N ∧ N < 2147483648) (hw : vp_nar .byte v = w) (d : decode cc pc = .ok (.bastore, 1)) (hn : pc + 1 = n) (hG : va_up G a (some (aB E N (upd g x.toNat w))) = G')
    (k : YW E p l e R s m args below meth c nL mc ms Q G' kc ks n L st) : YW E p l e R s m args below meth c nL mc ms Q G kc ks pc L (.int v :: .int (i32 x) :: .ref a :: st) := by
  subst hn
  subst hG
  subst hw
  intro H locs cells slots ls h1 h2 h3 h4 h5
  have hr : InR x := ⟨by omega, by omega⟩
  obtain ⟨ws, w1, w2, w3, w4⟩ := hf_ws h1
  obtain ⟨k0, e0⟩ := w3 a _ hg
  refine va_bast C.1 C.2.1 C.2.2.2.2.2.1 w1 w2 h2 k0 2 e0 rfl (i32_idx hr hx.1 hx.2.1) d (fun H1 locs1 p1 d1 s1 => ?_)
  rw [i32_clamp hr hx.1] at p1
  exact k H1 locs1 cells slots ls (hf_set w3 e0 h1.lo hg p1) s1 h3 h4 h5
/-- new arrays: bytes, ints, longs, references to objects -/
theorem y_newB (n : Nat) {N : Nat} {kc0 ks0 : Nat} (C : CX E p R s m args meth c cc nL own mc ms ret) (hw : Cond.arrayClass .byte ∈ AW) (hN : N ≤ 5000) (d : decode cc pc = .ok (.newarray .byte, 2)) (hn : pc + 2 = n) (hk : kc0 + 1 ≤ kc ∧ ks0 + N ≤ ks)
    (k : ∀ q, G q = none → YW E p l e R s m args below meth c nL mc ms Q (va_up G q (some (aB E N (fun _ => 0)))) kc0 ks0 n L (.ref q :: st)) : YW E p l e R s m args below meth c nL mc ms Q G kc ks pc L (.int (i32 (N : Int)) :: st) := by
  subst hn
  intro H locs cells slots ls h1 h2 h3 h4 h5
  obtain ⟨ws, w1, w2, w3, w4⟩ := hf_ws h1
  have hR1 := C.2.2.2.2.2.2.2.2.1
  have hK := C.2.2.2.2.2.1
  rw [← i32_nI]
  refine va_newa (atype := .byte) (ty := .byte) (N' := N) (a0 := (N, .inl (fun _ => 0))) C.1 C.2.1 (C.2.2.2.2.1 _ hw) rfl hK w1 w2 h2 (fun q hq => Nat.le_trans C.2.2.2.2.2.2.2.1 hq) (fun cA => vp_cell_i ..) (nI_pos (by omega)) (nI_clamp (by omega)) (by show N * 1 ≤ _; omega) (by omega) (by omega) d (fun q cA H1 p0 p1 d1 s1 => ?_)
  have hcA : cA = E.2.1 2 := by
    have e1 := (p0.2 5 (cA, .byte) rfl).2
    have e2 := (hK.2 2 _ rfl).2
    exact Option.some.inj (e1.symm.trans e2)
  subst hcA
  obtain ⟨z1, z2⟩ := hf_push w3 h1.lo p1 d1
  exact k q z1 H1 locs _ _ ls z2 s1 h3 (by omega) (by omega)
theorem y_newO (n : Nat) {N idx : Nat} {kc0 ks0 : Nat} (C : CX E p R s m args meth c cc nL own mc ms ret) (hw : Cond.classLink own idx "java/lang/Object" ∈ AW) (hN : N ≤ 5000) (d : decode cc pc = .ok (.anewarray idx, 3)) (hn : pc + 3 = n) (hk : kc0 + 1 ≤ kc ∧ ks0 + N ≤ ks)
    (k : ∀ q, G q = none → YW E p l e R s m args below meth c nL mc ms Q (va_up G q (some (aO E N (fun _ => none)))) kc0 ks0 n L (.ref q :: st)) : YW E p l e R s m args below meth c nL mc ms Q G kc ks pc L (.int (i32 (N : Int)) :: st) := by
  subst hn
  intro H locs cells slots ls h1 h2 h3 h4 h5
  obtain ⟨ws, w1, w2, w3, w4⟩ := hf_ws h1
  have hR1 := C.2.2.2.2.2.2.2.2.1
  have hK := C.2.2.2.2.2.1
  rw [← i32_nI]
  refine va_newq (N' := N) C.1 C.2.1 C.2.2.2.1 (C.2.2.2.2.1 _ hw) C.2.2.2.2.2.2.1.2.2.2.2.2.2.2.2.1 hK w1 w2 h2 (fun q hq => Nat.le_trans C.2.2.2.2.2.2.2.1 hq) (nI_pos (by omega)) (nI_clamp (by omega)) (by omega) (by omega) (by omega) d (fun q cA H1 p0 p1 d1 s1 => ?_)
  have hcA : cA = E.2.1 3 := by
    obtain ⟨-, kA, comp, -, -, -, e1⟩ := p0.2 5 (cA, .object "java/lang/Object") rfl
    obtain ⟨-, kA, comp, -, -, -, e2⟩ := hK.2 3 _ rfl
    exact Option.some.inj (e1.symm.trans e2)
  subst hcA
  obtain ⟨z1, z2⟩ := hf_push w3 h1.lo p1 d1
  exact k q z1 H1 locs _ _ ls z2 s1 h3 (by omega) (by omega)
/-- System.arraycopy of references, of bytes -/
def YS (own : String) (idx : Nat) : Prop := Cond.methodLink own idx arraycopyName ∈ AW ∧ Cond.native arraycopyName ∈ AW ∧ Cond.static arraycopyName ∈ AW ∧ Cond.initialized "java/lang/System" ∈ AW
theorem y_copyO (n : Nat) {a b N0 N1 idx : Nat} {g0 g1 : Nat → Option Nat} {sp dp k0 : Nat} {xs xd xk : Int} (C : CX E p R s m args meth c cc nL own mc ms ret) (Y : YS own idx) (hg0 : G a = some (aO E N0 g0)) (hg1 : G b = some (aO E N1 g1)) (hxe : xs = (sp : Int) ∧ xd = (dp : Int) ∧ xk = (k0 : Int)) (hz : N0 ≤ 5000 ∧ N1 ≤ 5000 ∧ sp + k0 ≤ N0 ∧ dp + k0 ≤ N1)
    (hel : ∀ i y : Nat, i < k0 → g0 (sp + i) = some y → ∃ (ci NN : Nat) (Cn : String) (Tn : u_T) (fs : List Value), G y = some (.inr (ci, fs)) ∧ CL[ci]? = some (Cn, Tn, NN) ∧ Cond.castable Cn "java/lang/Object" ∈ NW) (hR : 1 ≤ R.frames ∧ (st.map fun v => v.category).sum + 40 ≤ R.locals)
    (d : decode cc pc = .ok (.invokestatic idx, 3)) (hn : pc + 3 = n) (hG : va_up G b (some (aO E N1 (va_cpy g0 g1 sp dp k0))) = G')
    (k : YW E p l e R s m args below meth c nL mc ms Q G' kc ks n L st) : YW E p l e R s m args below meth c nL mc ms Q G kc ks pc L (.int (i32 xk) :: .int (i32 xd) :: .ref b :: .int (i32 xs) :: .ref a :: st) := by
  subst hn
  obtain ⟨rfl, rfl, rfl⟩ := hxe
  subst hG
  intro H locs cells slots ls h1 h2 h3 h4 h5
  obtain ⟨ws, w1, w2, w3, w4⟩ := hf_ws h1
  obtain ⟨q0, e0⟩ := w3 a _ hg0
  obtain ⟨q1, e1⟩ := w3 b _ hg1
  have hts := C.2.2.2.2.1
  have c1 : (nI sp).toNatClampNeg = sp := nI_clamp (by omega)
  have c2 : (nI dp).toNatClampNeg = dp := nI_clamp (by omega)
  have c3 : (nI k0).toNatClampNeg = k0 := nI_clamp (by omega)
  rw [← i32_nI, ← i32_nI, ← i32_nI]
  refine va_copyM C.1 C.2.1 (C.2.2.1.trans h3.1.symm) C.2.2.2.1 (hts _ Y.1) (hts _ Y.2.1) (hts _ Y.2.2.1) (hts _ Y.2.2.2) C.2.2.2.2.2.1 w1 w2 h2 q0 q1 3 3 e0 e1 rfl rfl (nI_pos (by omega)) (nI_pos (by omega)) (nI_pos (by omega)) (by rw [c1, c3]; omega) (by rw [c2, c3]; omega) (fun i hi y hy => ?_) hR.1 (Nat.le_trans (Nat.add_le_add_left (show nativeFrameWords "java/lang/System" "arraycopy" 5 + 11 ≤ 40 by decide) _) hR.2) d (fun H1 locs1 p1 d1 s1 => ?_)
  · rw [c1] at hy
    rw [c3] at hi
    obtain ⟨ci, NN, Cn, Tn, fs, r1, r2, r3⟩ := hel i y hi hy
    obtain ⟨k1, e1⟩ := w3 y _ r1
    exact va_rAny C.2.2.2.2.2.1 w1 e1 r2 (fun comp c0 q1 q2 => vb_asgC (C.2.2.2.2.2.2.2.2.2.2.2 _ r3) comp c0 q1 q2)
  · rw [c1, c2, c3] at p1
    exact k H1 locs1 cells slots ls (hf_set w3 e1 h1.lo hg1 p1) s1 h3 h4 h5
theorem y_copyB (n : Nat) {a b N0 N1 idx : Nat} {g0 g1 : Nat → Int32} {sp dp k0 : Nat} {xs xd xk : Int} (C : CX E p R s m args meth c cc nL own mc ms ret) (Y : YS own idx) (hg0 : G a = some (aB E N0 g0)) (hg1 : G b = some (aB E N1 g1)) (hxe : xs = (sp : Int) ∧ xd = (dp : Int) ∧ xk = (k0 : Int)) (hz : N0 ≤ 5000 ∧ N1 ≤ 5000 ∧ sp + k0 ≤ N0 ∧ dp + k0 ≤ N1)
    (hfit : ∀ i : Nat, i < k0 → fits .byte (.int (g0 (sp + i))) = true) (hR : 1 ≤ R.frames ∧ (st.map fun v => v.category).sum + 40 ≤ R.locals)
    (d : decode cc pc = .ok (.invokestatic idx, 3)) (hn : pc + 3 = n) (hG : va_up G b (some (aB E N1 (va_cpy g0 g1 sp dp k0))) = G')
    (k : YW E p l e R s m args below meth c nL mc ms Q G' kc ks n L st) : YW E p l e R s m args below meth c nL mc ms Q G kc ks pc L (.int (i32 xk) :: .int (i32 xd) :: .ref b :: .int (i32 xs) :: .ref a :: st) := by
  subst hn
  obtain ⟨rfl, rfl, rfl⟩ := hxe
  subst hG
  intro H locs cells slots ls h1 h2 h3 h4 h5
  obtain ⟨ws, w1, w2, w3, w4⟩ := hf_ws h1
  obtain ⟨q0, e0⟩ := w3 a _ hg0
  obtain ⟨q1, e1⟩ := w3 b _ hg1
  have hts := C.2.2.2.2.1
  have c1 : (nI sp).toNatClampNeg = sp := nI_clamp (by omega)
  have c2 : (nI dp).toNatClampNeg = dp := nI_clamp (by omega)
  have c3 : (nI k0).toNatClampNeg = k0 := nI_clamp (by omega)
  rw [← i32_nI, ← i32_nI, ← i32_nI]
  refine va_copyi C.1 C.2.1 (C.2.2.1.trans h3.1.symm) C.2.2.2.1 (hts _ Y.1) (hts _ Y.2.1) (hts _ Y.2.2.1) (hts _ Y.2.2.2) C.2.2.2.2.2.1 w1 w2 h2 q0 q1 2 2 e0 e1 rfl rfl rfl (nI_pos (by omega)) (nI_pos (by omega)) (nI_pos (by omega)) (by rw [c1, c3]; omega) (by rw [c2, c3]; omega) (fun i hi => ?_) hR.1 (Nat.le_trans (Nat.add_le_add_left (show nativeFrameWords "java/lang/System" "arraycopy" 5 + 11 ≤ 40 by decide) _) hR.2) d (fun H1 locs1 p1 d1 s1 => ?_)
  · rw [c1]
    rw [c3] at hi
    exact hfit i hi
  · rw [c1, c2, c3] at p1
    exact k H1 locs1 cells slots ls (hf_set w3 e1 h1.lo hg1 p1) s1 h3 h4 h5
/-- statics that stand -/
theorem y_getsE (n : Nat) {idx : Nat} (C : CX E p R s m args meth c cc nL own mc ms ret) (hl : Cond.fieldLink own idx "java/util/ArrayList" "DEFAULTCAPACITY_EMPTY_ELEMENTDATA" "[Ljava/lang/Object;" ∈ AW) (d : decode cc pc = .ok (.getstatic idx, 3)) (hn : pc + 3 = n)
    (k : YW E p l e R s m args below meth c nL mc ms Q G kc ks n L (.ref E.2.2.2 :: st)) : YW E p l e R s m args below meth c nL mc ms Q G kc ks pc L st := by
  subst hn
  intro H locs cells slots ls h1 h2 h3 h4 h5
  exact va_gets C.1 C.2.1 C.2.2.2.2.2.2.1.1.1 h2 C.2.2.2.1 (C.2.2.2.2.1 _ hl) (fun _ h => h) d (k H locs cells slots ls h1 h2 h3 h4 h5)
theorem y_getsC (n : Nat) {idx : Nat} (C : CX E p R s m args meth c cc nL own mc ms ret) (hl : Cond.fieldLink own idx "java/lang/String" "COMPACT_STRINGS" "Z" ∈ AW) (d : decode cc pc = .ok (.getstatic idx, 3)) (hn : pc + 3 = n)
    (k : YW E p l e R s m args below meth c nL mc ms Q G kc ks n L (.int (i32 1) :: st)) : YW E p l e R s m args below meth c nL mc ms Q G kc ks pc L st := by
  subst hn
  intro H locs cells slots ls h1 h2 h3 h4 h5
  exact va_gets C.1 C.2.1 C.2.2.2.2.2.2.1.1.2.2 h2 C.2.2.2.1 (C.2.2.2.2.1 _ hl) (fun _ h => h) d (k H locs cells slots ls h1 h2 h3 h4 h5)
/-- the empty row's length -/
theorem y_alenE (n : Nat) (C : CX E p R s m args meth c cc nL own mc ms ret) (d : decode cc pc = .ok (.arraylength, 1)) (hn : pc + 1 = n)
    (k : YW E p l e R s m args below meth c nL mc ms Q G kc ks n L (.int (i32 0) :: st)) : YW E p l e R s m args below meth c nL mc ms Q G kc ks pc L (.ref E.2.2.2 :: st) := by
  subst hn
  intro H locs cells slots ls h1 h2 h3 h4 h5
  exact va_tlen C.1 C.2.1 C.2.2.2.2.2.2.1.1.2.1 h2 rfl d (k H locs cells slots ls h1 h2 h3 h4 h5)
/-- the mirror of the class of rows of objects; getClass -/
theorem y_ldcM (n : Nat) {idx : Nat} (C : CX E p R s m args meth c cc nL own mc ms ret) (hl : Cond.classLink own idx "[Ljava/lang/Object;" ∈ AW) (d : decode cc pc = .ok (.ldc idx, 2)) (hn : pc + 2 = n)
    (k : YW E p l e R s m args below meth c nL mc ms Q G kc ks n L (.ref (E.2.1 9) :: st)) : YW E p l e R s m args below meth c nL mc ms Q G kc ks pc L st := by
  subst hn
  intro H locs cells slots ls h1 h2 h3 h4 h5
  exact va_ldcM C.1 C.2.1 C.2.2.2.1 (C.2.2.2.2.1 _ hl) C.2.2.2.2.2.2.1.2.2.2.2.2.2.2.1 d (k H locs cells slots ls h1 h2 h3 h4 h5)
abbrev getClassN : MethodName := ⟨"java/lang/Object", "getClass", "()Ljava/lang/Class;"⟩
theorem y_getC (n : Nat) {idx a N : Nat} {g : Nat → Option Nat} (C : CX E p R s m args meth c cc nL own mc ms ret) (hl : Cond.methodLink own idx getClassN ∈ AW) (hd : Cond.declares getClassN ∈ NW) (hs : Cond.selects "[Ljava/lang/Object;" getClassN getClassN ∈ AW) (hi : Cond.instanceMethod getClassN ∈ AW) (hnt : Cond.native getClassN ∈ AW) (hg : G a = some (aO E N g)) (hR : 1 ≤ R.frames ∧ (st.map fun v => v.category).sum + 14 ≤ R.locals) (d : decode cc pc = .ok (.invokevirtual idx, 3)) (hn : pc + 3 = n)
    (k : YW E p l e R s m args below meth c nL mc ms Q G kc ks n L (.ref (E.2.1 9) :: st)) : YW E p l e R s m args below meth c nL mc ms Q G kc ks pc L (.ref a :: st) := by
  subst hn
  intro H locs cells slots ls h1 h2 h3 h4 h5
  have hts := C.2.2.2.2.1
  have hr : ∃ cell : Cell, H[a]? = some cell ∧ cell.vm.isStatics = false ∧ s.vm.findClass "[Ljava/lang/Object;" = some cell.cls := by
    obtain ⟨-, kA, comp, -, -, -, e2⟩ := C.2.2.2.2.2.1.2 3 _ rfl
    exact ⟨_, (h1 a _ hg).1, rfl, e2⟩
  exact va_getC C.1 C.2.1 (C.2.2.1.trans h3.1.symm) C.2.2.2.1 (hts _ hl) (va_Nw.use rfl (C.2.2.2.2.2.2.2.2.2.2.2 _ hd)) (hts _ hs) (hts _ hi) (hts _ hnt) C.2.2.2.2.2.2.1.2.2.2.2.2.2.2.1 hr hR.1 hR.2 d (k H locs cells slots ls h1 h2 h3 h4 h5)
/-- a copy of a row of bytes; its cast back -/
abbrev cloneN : MethodName := ⟨"java/lang/Object", "clone", "()Ljava/lang/Object;"⟩
theorem aB_eq {E : EV} {N : Nat} {g g' : Nat → Int32} (h : ∀ j, j < N → g' j = g j) : vp_cell (E.2.1 2) (N, .inl g') = vp_cell (E.2.1 2) (N, .inl g) := by
  rw [vp_cell_i, vp_cell_i]
  have e : (arrV (E.2.1 2) N (fun j => .int (g' j))).slots = (arrV (E.2.1 2) N (fun j => .int (g j))).slots := by
    refine Array.ext (by rw [arrV_size, arrV_size]) (fun i h1 h2 => ?_)
    have hi : i < N := by rwa [arrV_size] at h1
    have a1 := arrV_read (E.2.1 2) (N := N) (fun j => Value.int (g' j)) hi
    have a2 := arrV_read (E.2.1 2) (N := N) (fun j => Value.int (g j)) hi
    rw [h i hi] at a1
    have a3 := a1.trans a2.symm
    rw [Array.getElem?_eq_getElem h1, Array.getElem?_eq_getElem h2] at a3
    exact Option.some.inj a3
  unfold arrV at e ⊢
  (try dsimp only at e ⊢)
  rw [e]
theorem y_clone (n : Nat) {idx a N : Nat} {g g' : Nat → Int32} {kc0 ks0 : Nat} (hgg : ∀ j, j < N → g' j = g j) (C : CX E p R s m args meth c cc nL own mc ms ret) (hl : Cond.methodLink own idx ⟨"[B", "clone", "()Ljava/lang/Object;"⟩ ∈ AW) (hsm : Cond.sameMethod "[B" "java/lang/Object" "clone" "()Ljava/lang/Object;" ∈ AW) (hnt : Cond.native cloneN ∈ AW) (hi : Cond.instanceMethod cloneN ∈ AW) (hs : Cond.selects "[B" ⟨"[B", "clone", "()Ljava/lang/Object;"⟩ cloneN ∈ AW) (hc : Cond.castable "[B" "java/lang/Cloneable" ∈ NW) (hg : G a = some (aB E N g)) (hfit : ∀ j : Nat, j < N → fits .byte (.int (g j)) = true) (hR : 1 ≤ R.frames ∧ (st.map fun v => v.category).sum + 14 ≤ R.locals) (hk : kc0 + 1 ≤ kc ∧ ks0 + N ≤ ks) (d : decode cc pc = .ok (.invokevirtual idx, 3)) (hn : pc + 3 = n)
    (k : ∀ q, G q = none → YW E p l e R s m args below meth c nL mc ms Q (va_up G q (some (aB E N g'))) kc0 ks0 n L (.ref q :: st)) : YW E p l e R s m args below meth c nL mc ms Q G kc ks pc L (.ref a :: st) := by
  subst hn
  intro H locs cells slots ls h1 h2 h3 h4 h5
  have hts := C.2.2.2.2.1
  have hR1 := C.2.2.2.2.2.2.2.2.1
  have hK := C.2.2.2.2.2.1
  obtain ⟨ws, w1, w2, w3, w4⟩ := hf_ws h1
  obtain ⟨q0, e0⟩ := w3 a _ hg
  refine va_clone (ad := "[B") C.1 C.2.1 (C.2.2.1.trans h3.1.symm) C.2.2.2.1 (hts _ hl) (hts _ hsm) (hts _ hnt) (hts _ hi) (hts _ hs) (C.2.2.2.2.2.2.2.2.2.2.2 _ hc) hK w1 w2 h2 (fun q hq => Nat.le_trans C.2.2.2.2.2.2.2.1 hq) q0 2 e0 rfl (hK.2 2 _ rfl).2 (fun i v hv => ?_) hR.1 hR.2 (by omega) (by show _ + N ≤ _; omega) d (fun q H1 p0 p1 d1 s1 => ?_)
  · have hv2 : (arrV (E.2.1 2) N (fun j => .int (g j))).slots[i]? = some v := hv
    have hi : i < N := by
      have := (Array.getElem?_eq_some_iff.mp hv2).1
      rwa [arrV_size] at this
    rw [arrV_read _ _ hi] at hv2
    cases hv2
    exact hfit i hi
  · obtain ⟨z1, z2⟩ := hf_push w3 h1.lo p1 d1
    have z3 : hf E (va_up G q (some (aB E N g'))) H1 := fun x e he => by
      by_cases hx : x = q
      · subst hx
        rw [up_s] at he
        cases he
        obtain ⟨t1, t2⟩ := z2 x _ up_s
        exact ⟨by show H1[x]? = some (vp_cell _ _); rw [aB_eq hgg]; exact t1, t2⟩
      · rw [up_n hx] at he
        exact z2 x e (by rw [up_n hx]; exact he)
    exact k q z1 H1 _ _ _ ls z3 s1 h3 (by omega) (by show _ + N + _ ≤ _; omega)
theorem y_castB (n : Nat) {idx a N : Nat} {g : Nat → Int32} (C : CX E p R s m args meth c cc nL own mc ms ret) (hl : Cond.classLink own idx "[B" ∈ AW) (hg : G a = some (aB E N g)) (d : decode cc pc = .ok (.checkcast idx, 3)) (hn : pc + 3 = n)
    (k : YW E p l e R s m args below meth c nL mc ms Q G kc ks n L (.ref a :: st)) : YW E p l e R s m args below meth c nL mc ms Q G kc ks pc L (.ref a :: st) := by
  subst hn
  intro H locs cells slots ls h1 h2 h3 h4 h5
  obtain ⟨ws, w1, w2, w3, w4⟩ := hf_ws h1
  obtain ⟨q0, e0⟩ := w3 a _ hg
  exact va_castA C.1 C.2.1 C.2.2.2.1 (C.2.2.2.2.1 _ hl) w1 q0 e0 (C.2.2.2.2.2.1.2 2 _ rfl).2 d (k H locs cells slots ls h1 h2 h3 h4 h5)
end YF
