/-! further rows, over both pictures, by program -/
theorem oi_i : Cond.instanceMethod Lib.objectInit ∈ AW := aw_i 131 (by decide +kernel) rfl
theorem oi_c : Cond.code Lib.objectInit ⟨#[0xb1]⟩ 1 none ∈ AW := aw_i 132 (by decide +kernel) rfl
theorem i32_shl0 (x : Int32) : x <<< ((0 : Int32) &&& 31) = x := by
  apply Int32.toBitVec.inj
  show x.toBitVec <<< _ = _
  simp
section R2YW
variable {E : EV} {p : Program} {l : Launch} {e : Env} {R : Room} {s : State} {m : MethodId} {args : Array Value} {below : List Frame} {meth : Method} {c : Code} {cc : ByteArray} {nL mc ms : Nat} {own : String} {ret : Option FieldType} {Q : State → Prop} {G : FT} {kc ks pc : Nat} {L : List (Option Value)} {st : List Value}
theorem y_ineg (n : Nat) (C : CX E p R s m args meth c cc nL own mc ms ret) {x : Int} (d : decode cc pc = .ok (.ineg, 1)) (hn : pc + 1 = n)
    (k : YW E p l e R s m args below meth c nL mc ms Q G kc ks n L (.int (i32 (-x)) :: st)) : YW E p l e R s m args below meth c nL mc ms Q G kc ks pc L (.int (i32 x) :: st) := by
  subst hn
  intro H locs cells slots ls h1 h2 h3 h4 h5
  exact lv_ineg C.1 C.2.1 d (by rw [show -(i32 x) = i32 (-x) from (Int32.ofInt_neg x).symm]; exact k H locs cells slots ls h1 h2 h3 h4 h5)
theorem y_ishl0 (n : Nat) (C : CX E p R s m args meth c cc nL own mc ms ret) {x : Int32} (d : decode cc pc = .ok (.ishl, 1)) (hn : pc + 1 = n)
    (k : YW E p l e R s m args below meth c nL mc ms Q G kc ks n L (.int x :: st)) : YW E p l e R s m args below meth c nL mc ms Q G kc ks pc L (.int 0 :: .int x :: st) := by
  subst hn
  intro H locs cells slots ls h1 h2 h3 h4 h5
  exact lv_ishl C.1 C.2.1 d (by rw [i32_shl0]; exact k H locs cells slots ls h1 h2 h3 h4 h5)
theorem y_ishr0 (n : Nat) (C : CX E p R s m args meth c cc nL own mc ms ret) {x : Int32} (d : decode cc pc = .ok (.ishr, 1)) (hn : pc + 1 = n)
    (k : YW E p l e R s m args below meth c nL mc ms Q G kc ks n L (.int x :: st)) : YW E p l e R s m args below meth c nL mc ms Q G kc ks pc L (.int 0 :: .int x :: st) := by
  subst hn
  intro H locs cells slots ls h1 h2 h3 h4 h5
  exact lv_ishr C.1 C.2.1 d (by rw [sb_shr0]; exact k H locs cells slots ls h1 h2 h3 h4 h5)
theorem y_ishr1 (n : Nat) (C : CX E p R s m args meth c cc nL own mc ms ret) {x : Nat} (d : decode cc pc = .ok (.ishr, 1)) (hn : pc + 1 = n) (hx : x < 2147483648)
    (k : YW E p l e R s m args below meth c nL mc ms Q G kc ks n L (.int (i32 ((x / 2 : Nat) : Int)) :: st)) : YW E p l e R s m args below meth c nL mc ms Q G kc ks pc L (.int (i32 1) :: .int (i32 (x : Int)) :: st) := by
  subst hn
  intro H locs cells slots ls h1 h2 h3 h4 h5
  refine lv_ishr C.1 C.2.1 d ?_
  rw [← i32_nI, pk_shrN (by omega) _ 1 (by decide), i32_nI]
  exact k H locs cells slots ls h1 h2 h3 h4 h5
theorem y_i2b (n : Nat) (C : CX E p R s m args meth c cc nL own mc ms ret) {x v : Int32} (d : decode cc pc = .ok (.i2b, 1)) (hn : pc + 1 = n) (hv : x.toInt8.toInt32 = v)
    (k : YW E p l e R s m args below meth c nL mc ms Q G kc ks n L (.int v :: st)) : YW E p l e R s m args below meth c nL mc ms Q G kc ks pc L (.int x :: st) := by
  subst hn
  intro H locs cells slots ls h1 h2 h3 h4 h5
  exact lv_i2b C.1 C.2.1 d hv (k H locs cells slots ls h1 h2 h3 h4 h5)
theorem y_acmp_eq (n t : Nat) (C : CX E p R s m args meth c cc nL own mc ms ret) {rx ry : Option Nat} {off : Int} (d : decode cc pc = .ok (.if_acmp .eq off, 3)) (hn : pc + 3 = n) (ht : (pc : Int) + off = (t : Int))
    (kt : rx = ry → YW E p l e R s m args below meth c nL mc ms Q G kc ks t L st) (kf : ¬ rx = ry → YW E p l e R s m args below meth c nL mc ms Q G kc ks n L st) : YW E p l e R s m args below meth c nL mc ms Q G kc ks pc L (va_rf ry :: va_rf rx :: st) := by
  subst hn
  intro H locs cells slots ls h1 h2 h3 h4 h5
  exact lv_acmp_eq C.1 C.2.1 d ht (fun z => kt z H locs cells slots ls h1 h2 h3 h4 h5) (fun z => kf z H locs cells slots ls h1 h2 h3 h4 h5)
theorem y_acmp_ne (n t : Nat) (C : CX E p R s m args meth c cc nL own mc ms ret) {rx ry : Option Nat} {off : Int} (d : decode cc pc = .ok (.if_acmp .ne off, 3)) (hn : pc + 3 = n) (ht : (pc : Int) + off = (t : Int))
    (kt : ¬ rx = ry → YW E p l e R s m args below meth c nL mc ms Q G kc ks t L st) (kf : rx = ry → YW E p l e R s m args below meth c nL mc ms Q G kc ks n L st) : YW E p l e R s m args below meth c nL mc ms Q G kc ks pc L (va_rf ry :: va_rf rx :: st) := by
  subst hn
  intro H locs cells slots ls h1 h2 h3 h4 h5
  exact lv_acmp_ne C.1 C.2.1 d ht (fun z => kt z H locs cells slots ls h1 h2 h3 h4 h5) (fun z => kf z H locs cells slots ls h1 h2 h3 h4 h5)
theorem y_ifnull (n t : Nat) (C : CX E p R s m args meth c cc nL own mc ms ret) {r : Option Nat} {off : Int} (d : decode cc pc = .ok (.ifnull off, 3)) (hn : pc + 3 = n) (ht : (pc : Int) + off = (t : Int))
    (kt : r = none → YW E p l e R s m args below meth c nL mc ms Q G kc ks t L st) (kf : ∀ a, r = some a → YW E p l e R s m args below meth c nL mc ms Q G kc ks n L st) : YW E p l e R s m args below meth c nL mc ms Q G kc ks pc L (va_rf r :: st) := by
  subst hn
  intro H locs cells slots ls h1 h2 h3 h4 h5
  cases r with
  | none => exact lv_ifnullN C.1 C.2.1 d ht (kt rfl H locs cells slots ls h1 h2 h3 h4 h5)
  | some a => exact lv_ifnull C.1 C.2.1 d (kf a rfl H locs cells slots ls h1 h2 h3 h4 h5)
theorem y_ifnonnull (n t : Nat) (C : CX E p R s m args meth c cc nL own mc ms ret) {r : Option Nat} {off : Int} (d : decode cc pc = .ok (.ifnonnull off, 3)) (hn : pc + 3 = n) (ht : (pc : Int) + off = (t : Int))
    (kt : ∀ a, r = some a → YW E p l e R s m args below meth c nL mc ms Q G kc ks t L st) (kf : r = none → YW E p l e R s m args below meth c nL mc ms Q G kc ks n L st) : YW E p l e R s m args below meth c nL mc ms Q G kc ks pc L (va_rf r :: st) := by
  subst hn
  intro H locs cells slots ls h1 h2 h3 h4 h5
  cases r with
  | none => exact lv_ifnonnullN C.1 C.2.1 d (kf rfl H locs cells slots ls h1 h2 h3 h4 h5)
  | some a => exact lv_ifnonnull C.1 C.2.1 d ht (kt a rfl H locs cells slots ls h1 h2 h3 h4 h5)
theorem y_objInit (n : Nat) {idx a : Nat} (C : CX E p R s m args meth c cc nL own mc ms ret) (hw : Cond.methodLink own idx Lib.objectInit ∈ AW) (hR : 1 ≤ R.frames ∧ (st.map fun v => v.category).sum + 12 ≤ R.locals) (d : decode cc pc = .ok (.invokespecial idx, 3)) (hn : pc + 3 = n)
    (k : YW E p l e R s m args below meth c nL mc ms Q G kc ks n L st) : YW E p l e R s m args below meth c nL mc ms Q G kc ks pc L (.ref a :: st) := by
  subst hn
  intro H locs cells slots ls h1 h2 h3 h4 h5
  have hts := C.2.2.2.2.1
  exact W.objInit C.1 C.2.1 C.2.2.2.1 (hts _ hw) (hts _ oi_i) (hts _ oi_c) rfl (h3.1.trans C.2.2.1.symm) rfl d hR.1 (by show 2 * 0 + _ + 12 ≤ _; omega) (k H locs cells slots ls h1 h2 h3 h4 h5)
theorem y_ldcS (n : Nat) {idx : Nat} {tx : String} (C : CX E p R s m args meth c cc nL own mc ms ret) {a : Nat} (hZ : vk_R own idx tx a s) (d : decode cc pc = .ok (.ldc idx, 2)) (hn : pc + 2 = n)
    (k : YW E p l e R s m args below meth c nL mc ms Q G kc ks n L (.ref a :: st)) : YW E p l e R s m args below meth c nL mc ms Q G kc ks pc L st := by
  subst hn
  intro H locs cells slots ls h1 h2 h3 h4 h5
  exact va_ldcS C.1 C.2.1 C.2.2.2.1 hZ d (k H locs cells slots ls h1 h2 h3 h4 h5)
end R2YW
section R2XW
variable {E : EV} {p : Program} {l : Launch} {e : Env} {R : Room} {s : State} {m : MethodId} {args : Array Value} {below : List Frame} {meth : Method} {c : Code} {cc : ByteArray} {nL mc ms : Nat} {own : String} {ret : Option FieldType} {Q : State → Prop} {G : GT} {kc ks pc : Nat} {L : List (Option Value)} {st : List Value}
theorem x_ineg (n : Nat) (C : CX E p R s m args meth c cc nL own mc ms ret) {x : Int} (d : decode cc pc = .ok (.ineg, 1)) (hn : pc + 1 = n)
    (k : XW E p l e R s m args below meth c nL mc ms Q G kc ks n L (.int (i32 (-x)) :: st)) : XW E p l e R s m args below meth c nL mc ms Q G kc ks pc L (.int (i32 x) :: st) := by
  subst hn
  intro H locs cells slots ls h1 h2 h3 h4 h5
  exact lv_ineg C.1 C.2.1 d (by rw [show -(i32 x) = i32 (-x) from (Int32.ofInt_neg x).symm]; exact k H locs cells slots ls h1 h2 h3 h4 h5)
theorem x_ishl0 (n : Nat) (C : CX E p R s m args meth c cc nL own mc ms ret) {x : Int32} (d : decode cc pc = .ok (.ishl, 1)) (hn : pc + 1 = n)
    (k : XW E p l e R s m args below meth c nL mc ms Q G kc ks n L (.int x :: st)) : XW E p l e R s m args below meth c nL mc ms Q G kc ks pc L (.int 0 :: .int x :: st) := by
  subst hn
  intro H locs cells slots ls h1 h2 h3 h4 h5
  exact lv_ishl C.1 C.2.1 d (by rw [i32_shl0]; exact k H locs cells slots ls h1 h2 h3 h4 h5)
theorem x_ishr0 (n : Nat) (C : CX E p R s m args meth c cc nL own mc ms ret) {x : Int32} (d : decode cc pc = .ok (.ishr, 1)) (hn : pc + 1 = n)
    (k : XW E p l e R s m args below meth c nL mc ms Q G kc ks n L (.int x :: st)) : XW E p l e R s m args below meth c nL mc ms Q G kc ks pc L (.int 0 :: .int x :: st) := by
  subst hn
  intro H locs cells slots ls h1 h2 h3 h4 h5
  exact lv_ishr C.1 C.2.1 d (by rw [sb_shr0]; exact k H locs cells slots ls h1 h2 h3 h4 h5)
theorem x_ishr1 (n : Nat) (C : CX E p R s m args meth c cc nL own mc ms ret) {x : Nat} (d : decode cc pc = .ok (.ishr, 1)) (hn : pc + 1 = n) (hx : x < 2147483648)
    (k : XW E p l e R s m args below meth c nL mc ms Q G kc ks n L (.int (i32 ((x / 2 : Nat) : Int)) :: st)) : XW E p l e R s m args below meth c nL mc ms Q G kc ks pc L (.int (i32 1) :: .int (i32 (x : Int)) :: st) := by
  subst hn
  intro H locs cells slots ls h1 h2 h3 h4 h5
  refine lv_ishr C.1 C.2.1 d ?_
  rw [← i32_nI, pk_shrN (by omega) _ 1 (by decide), i32_nI]
  exact k H locs cells slots ls h1 h2 h3 h4 h5
theorem x_i2b (n : Nat) (C : CX E p R s m args meth c cc nL own mc ms ret) {x v : Int32} (d : decode cc pc = .ok (.i2b, 1)) (hn : pc + 1 = n) (hv : x.toInt8.toInt32 = v)
    (k : XW E p l e R s m args below meth c nL mc ms Q G kc ks n L (.int v :: st)) : XW E p l e R s m args below meth c nL mc ms Q G kc ks pc L (.int x :: st) := by
  subst hn
  intro H locs cells slots ls h1 h2 h3 h4 h5
  exact lv_i2b C.1 C.2.1 d hv (k H locs cells slots ls h1 h2 h3 h4 h5)
theorem x_acmp_eq (n t : Nat) (C : CX E p R s m args meth c cc nL own mc ms ret) {rx ry : Option Nat} {off : Int} (d : decode cc pc = .ok (.if_acmp .eq off, 3)) (hn : pc + 3 = n) (ht : (pc : Int) + off = (t : Int))
    (kt : rx = ry → XW E p l e R s m args below meth c nL mc ms Q G kc ks t L st) (kf : ¬ rx = ry → XW E p l e R s m args below meth c nL mc ms Q G kc ks n L st) : XW E p l e R s m args below meth c nL mc ms Q G kc ks pc L (va_rf ry :: va_rf rx :: st) := by
  subst hn
  intro H locs cells slots ls h1 h2 h3 h4 h5
  exact lv_acmp_eq C.1 C.2.1 d ht (fun z => kt z H locs cells slots ls h1 h2 h3 h4 h5) (fun z => kf z H locs cells slots ls h1 h2 h3 h4 h5)
theorem x_acmp_ne (n t : Nat) (C : CX E p R s m args meth c cc nL own mc ms ret) {rx ry : Option Nat} {off : Int} (d : decode cc pc = .ok (.if_acmp .ne off, 3)) (hn : pc + 3 = n) (ht : (pc : Int) + off = (t : Int))
    (kt : ¬ rx = ry → XW E p l e R s m args below meth c nL mc ms Q G kc ks t L st) (kf : rx = ry → XW E p l e R s m args below meth c nL mc ms Q G kc ks n L st) : XW E p l e R s m args below meth c nL mc ms Q G kc ks pc L (va_rf ry :: va_rf rx :: st) := by
  subst hn
  intro H locs cells slots ls h1 h2 h3 h4 h5
  exact lv_acmp_ne C.1 C.2.1 d ht (fun z => kt z H locs cells slots ls h1 h2 h3 h4 h5) (fun z => kf z H locs cells slots ls h1 h2 h3 h4 h5)
theorem x_ifnull (n t : Nat) (C : CX E p R s m args meth c cc nL own mc ms ret) {r : Option Nat} {off : Int} (d : decode cc pc = .ok (.ifnull off, 3)) (hn : pc + 3 = n) (ht : (pc : Int) + off = (t : Int))
    (kt : r = none → XW E p l e R s m args below meth c nL mc ms Q G kc ks t L st) (kf : ∀ a, r = some a → XW E p l e R s m args below meth c nL mc ms Q G kc ks n L st) : XW E p l e R s m args below meth c nL mc ms Q G kc ks pc L (va_rf r :: st) := by
  subst hn
  intro H locs cells slots ls h1 h2 h3 h4 h5
  cases r with
  | none => exact lv_ifnullN C.1 C.2.1 d ht (kt rfl H locs cells slots ls h1 h2 h3 h4 h5)
  | some a => exact lv_ifnull C.1 C.2.1 d (kf a rfl H locs cells slots ls h1 h2 h3 h4 h5)
theorem x_ifnonnull (n t : Nat) (C : CX E p R s m args meth c cc nL own mc ms ret) {r : Option Nat} {off : Int} (d : decode cc pc = .ok (.ifnonnull off, 3)) (hn : pc + 3 = n) (ht : (pc : Int) + off = (t : Int))
    (kt : ∀ a, r = some a → XW E p l e R s m args below meth c nL mc ms Q G kc ks t L st) (kf : r = none → XW E p l e R s m args below meth c nL mc ms Q G kc ks n L st) : XW E p l e R s m args below meth c nL mc ms Q G kc ks pc L (va_rf r :: st) := by
  subst hn
  intro H locs cells slots ls h1 h2 h3 h4 h5
  cases r with
  | none => exact lv_ifnonnullN C.1 C.2.1 d (kf rfl H locs cells slots ls h1 h2 h3 h4 h5)
  | some a => exact lv_ifnonnull C.1 C.2.1 d ht (kt a rfl H locs cells slots ls h1 h2 h3 h4 h5)
theorem x_objInit (n : Nat) {idx a : Nat} (C : CX E p R s m args meth c cc nL own mc ms ret) (hw : Cond.methodLink own idx Lib.objectInit ∈ AW) (hR : 1 ≤ R.frames ∧ (st.map fun v => v.category).sum + 12 ≤ R.locals) (d : decode cc pc = .ok (.invokespecial idx, 3)) (hn : pc + 3 = n)
    (k : XW E p l e R s m args below meth c nL mc ms Q G kc ks n L st) : XW E p l e R s m args below meth c nL mc ms Q G kc ks pc L (.ref a :: st) := by
  subst hn
  intro H locs cells slots ls h1 h2 h3 h4 h5
  have hts := C.2.2.2.2.1
  exact W.objInit C.1 C.2.1 C.2.2.2.1 (hts _ hw) (hts _ oi_i) (hts _ oi_c) rfl (h3.1.trans C.2.2.1.symm) rfl d hR.1 (by show 2 * 0 + _ + 12 ≤ _; omega) (k H locs cells slots ls h1 h2 h3 h4 h5)
theorem x_ldcS (n : Nat) {idx : Nat} {tx : String} (C : CX E p R s m args meth c cc nL own mc ms ret) {a : Nat} (hZ : vk_R own idx tx a s) (d : decode cc pc = .ok (.ldc idx, 2)) (hn : pc + 2 = n)
    (k : XW E p l e R s m args below meth c nL mc ms Q G kc ks n L (.ref a :: st)) : XW E p l e R s m args below meth c nL mc ms Q G kc ks pc L st := by
  subst hn
  intro H locs cells slots ls h1 h2 h3 h4 h5
  exact va_ldcS C.1 C.2.1 C.2.2.2.1 hZ d (k H locs cells slots ls h1 h2 h3 h4 h5)
end R2XW
