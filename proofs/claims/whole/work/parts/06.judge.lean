/-! what every method may rest on: the tables, the statics; and the judgement 'at pc, with the picture G, the locals L, the stack st' -/
abbrev tyE (E : EV) : List (ClassId × FieldType) := [(E.2.1 0, .int), (E.2.1 1, .boolean), (E.2.1 2, .byte), (E.2.1 3, .object "java/lang/Object"), (E.2.1 4, .long)]
abbrev bA (E : EV) : Nat → Prop := fun q => E.2.2.1 ≤ q
/-- the texts that are thrown with, the classes that handlers tell apart -/
def stx : List (String × Nat × String) := [("HopRules", 48, "no such label"), ("HopRules", 72, "no room for this host"), ("HopRules", 94, "no such scheme, port or path"), ("HopRules", 108, "no such reference"), ("HopRules", 119, "too many segments"), ("HopRules", 142, "no such character"), ("HopRules", 149, "no such host"), ("HopRules", 164, "no such address"), ("HopRules", 171, "no room for this address"), ("HopRules", 176, "no such status"), ("HopRules", 188, "no such others or age"), ("HopRules", 202, "no such name, value or path"), ("HopRules", 204, "no such flags or age"), ("HopRules", 222, "no such policy"), ("HopRules", 224, "no room for this page"), ("HopRules", 231, "no such method, mode or credentials"), ("HopRules", 233, "method and header do not go with the mode"), ("HopRules", 238, "this request is not possible now"), ("HopRules", 253, "no such ticks"), ("HopRules", 265, "no such page"), ("HopRules", 401, "no such place"), ("HopRules", 413, "no such cookie"), ("HopRules", 431, "nothing that is counted"), ("HopRules", 433, "no such request"), ("HopRules", 435, "no such hop"), ("HopRules$Address", 42, "https://"), ("HopRules$Address", 44, "http://"), ("java/util/Arrays", 337, " > ")]
def ncx : List (String × String) := [("java/lang/IllegalArgumentException", "java/lang/IndexOutOfBoundsException"), ("java/lang/IllegalStateException", "java/lang/IndexOutOfBoundsException"), ("java/lang/IllegalStateException", "java/lang/IllegalArgumentException"), ("java/lang/IndexOutOfBoundsException", "java/lang/IllegalArgumentException")]
def SX (E : EV) (U : State) (H : Heap) : Prop :=
  (vx_Zq Bundle.tN "UNASSIGNED_STACK" Bundle.steD (bA E) U H ∧ vx_Zq Bundle.tN "SUPPRESSED_SENTINEL" Bundle.listD (bA E) U H ∧ va_Zq "jdk/internal/util/Preconditions" "SIOOBE_FORMATTER" "Ljava/util/function/BiFunction;" (bA E) U H) ∧
  (∃ a : Nat, va_Z "java/lang/Integer" "DigitOnes" "[B" (.ref a) (bA E) U H ∧ va_T .byte a 100 (fun j => .int (i32 (48 + (j : Int) % 10))) (bA E) U H) ∧
  (∃ a : Nat, va_Z "java/lang/Integer" "DigitTens" "[B" (.ref a) (bA E) U H ∧ va_T .byte a 100 (fun j => .int (i32 (48 + (j : Int) / 10))) (bA E) U H) ∧
  (vk_S 1 [8] [[104, 116, 116, 112, 115, 58, 47, 47]] (fun _ => E.2.1 10) (fun _ => E.2.1 11) (bA E) U H ∧ vk_R "HopRules$Address" 42 "https://" (E.2.1 10) U) ∧
  (vk_S 1 [7] [[104, 116, 116, 112, 58, 47, 47]] (fun _ => E.2.1 12) (fun _ => E.2.1 13) (bA E) U H ∧ vk_R "HopRules$Address" 44 "http://" (E.2.1 12) U) ∧
  (∀ q ∈ stx, ∃ a : Nat, vk_R q.1 q.2.1 q.2.2 a U) ∧ va_Mi "[Ljava/lang/Object;" (E.2.1 9) U ∧ va_AO "java/lang/Object" U ∧ ∀ q ∈ ncx, va_Nc q.1 q.2 U
theorem SX.alike {E : EV} {u U : State} {H : Heap} (hvm : u.vm.Alike U.vm) (hR : ∀ (own tx : String) (k a : Nat), vk_R own k tx a u → vk_R own k tx a U) (h : SX E u H) : SX E U H := by
  obtain ⟨⟨a1, a2, a3⟩, ⟨b, b1, b2⟩, ⟨c, c1, c2⟩, ⟨d1, d2⟩, ⟨e1, e2⟩, h1, i1, ao, j1⟩ := h
  refine ⟨⟨a1.moved hvm, a2.moved hvm, a3.moved hvm⟩, ⟨b, va_Z.moved hvm b1, va_T.moved hvm b2⟩, ⟨c, va_Z.moved hvm c1, va_T.moved hvm c2⟩, ⟨d1.moved hvm, hR _ _ _ _ d2⟩, ⟨e1.moved hvm, hR _ _ _ _ e2⟩, fun q hq => ?_, i1.moved hvm, va_AO.moved hvm ao, fun q hq => (j1 q hq).moved hvm⟩
  obtain ⟨a, ha⟩ := h1 q hq
  exact ⟨a, hR _ _ _ _ ha⟩
theorem SX.kept {E : EV} {U : State} {H H1 : Heap} (h : SX E U H) (hq : ∀ a : Nat, a < H.size → ¬ bA E a → H1[a]? = H[a]?) : SX E U H1 := by
  obtain ⟨⟨a1, a2, a3⟩, ⟨b, b1, b2⟩, ⟨c, c1, c2⟩, ⟨d1, d2⟩, ⟨e1, e2⟩, h1, i1, ao, j1⟩ := h
  exact ⟨⟨a1.kept hq, a2.kept hq, a3.kept hq⟩, ⟨b, b1.kept hq, b2.kept hq⟩, ⟨c, c1.kept hq, c2.kept hq⟩, ⟨d1.kept hq, d2⟩, ⟨e1.kept hq, e2⟩, h1, i1, ao, j1⟩
def ST (E : EV) (U : State) (H : Heap) : Prop :=
  (va_Z "java/util/ArrayList" "DEFAULTCAPACITY_EMPTY_ELEMENTDATA" "[Ljava/lang/Object;" (.ref E.2.2.2) (bA E) U H ∧ va_T (.object "java/lang/Object") E.2.2.2 0 (fun _ => .null) (bA E) U H ∧
  va_Z "java/lang/String" "COMPACT_STRINGS" "Z" (.int 1) (bA E) U H) ∧ SX E U H
theorem ST.moved {E : EV} {u U : State} {H : Heap} (hW : u.WarmedH U.vm) (h : ST E u H) : ST E U H :=
  ⟨⟨va_Z.moved hW.alike h.1.1, va_T.moved hW.alike h.1.2.1, va_Z.moved hW.alike h.1.2.2⟩, h.2.alike hW.alike (fun _ _ _ _ z => vk_R.warm hW z)⟩
theorem ST.same {E : EV} {u U : State} {H : Heap} (hv : U.vm = u.vm) (h : ST E u H) : ST E U H := by
  have hA : u.vm.Alike U.vm := by rw [hv]; exact Vm.Alike.refl u.vm
  exact ⟨⟨va_Z.moved hA h.1.1, va_T.moved hA h.1.2.1, va_Z.moved hA h.1.2.2⟩, h.2.alike hA (fun _ _ _ _ z => vk_R.same hv z)⟩
theorem ST.kept {E : EV} {U : State} {H H1 : Heap} (h : ST E U H) (hq : ∀ a : Nat, a < H.size → ¬ bA E a → H1[a]? = H[a]?) : ST E U H1 := ⟨⟨h.1.1.kept hq, h.1.2.1.kept hq, h.1.2.2.kept hq⟩, h.2.kept hq⟩
/-- words that stay by laws of their own: links of nest mates, casts -/
def isNW : Cond → Bool := fun w => match w with
  | .fieldLinkNest .. => true
  | .methodLinkNest .. => true
  | .castable .. => true
  | .declares .. => true
  | _ => false
def NW : List Cond := lw_tbl.filter isNW
theorem nw_i (k : Nat) {w : Cond} (h : lw_tbl[k]? = some w) (hg : isNW w = true) : w ∈ NW := List.mem_filter.mpr ⟨List.mem_of_getElem? h, hg⟩
theorem nw_warm {s U : State} (hW : s.WarmedH U.vm) (h : ∀ w ∈ NW, va_Nw w s) : ∀ w ∈ NW, va_Nw w U := by
  intro w hw
  have h2 := h w hw
  have h3 := (List.mem_filter.mp hw).2
  cases w <;> simp only [isNW, Bool.false_eq_true] at h3
  all_goals first | exact va_Nw.warmC hW h2 | exact va_Nw.warmF hW h2 | exact va_Nw.warmM hW h2 | exact va_Nw.warmD hW h2
theorem nw_on {w : Cond} (hw : w ∈ NW) : w.onTables = true := by
  have h3 := (List.mem_filter.mp hw).2
  cases w <;> simp only [isNW, Bool.false_eq_true] at h3 <;> rfl
theorem nw_same {u U : State} (hv : u.vm = U.vm) (h : ∀ w ∈ NW, va_Nw w u) : ∀ w ∈ NW, va_Nw w U := fun w hw => va_Nw.same (nw_on hw) hv (h w hw)
/-- the world: tables, statics, the picture -/
def WD (E : EV) (G : GT) (U : State) : Prop := va_K E.1 CL (tyE E) U ∧ ST E U U.heap ∧ E.2.2.1 ≤ U.heap.size ∧ hp E G U.heap ∧ ∀ w ∈ NW, va_Nw w U
def PC (E : EV) (av : List Value) (G : GT) : Array Value → State → Prop := va_Pc av (WD E G)
def QC (E : EV) (post : Option Value → GT → Prop) : Array Value → State → Outcome → State → Prop := fun _ st o t => (∃ (v : Option Value) (G' : GT), o = .returned v ∧ WD E G' t ∧ post v G') ∧ va_F (bA E) st t
def XC (E : EV) (xp : String → GT → Prop) : String → State → State → Prop := fun n st t => (∃ G' : GT, WD E G' t ∧ xp n G') ∧ va_F (bA E) st t
abbrev wsm (y : MethodName) (cc : ByteArray) (nL : Nat) (ret : Option FieldType) : List Cond := .code y cc nL ret :: AW
/-- a method that returns -/
def MT (E : EV) (l : Launch) (y : MethodName) (cc : ByteArray) (nL : Nat) (ret : Option FieldType) (fr lo mc ms : Nat) (av : List Value) (G : GT) (post : Option Value → GT → Prop) : Prop :=
  Met l y (wsm y cc nL ret) ({ frames := fr, cells := mc, slots := ms, locals := lo } : Room) (PC E av G) (QC E post) mc ms (bA E)
/-- a method that returns or throws -/
def MX (E : EV) (l : Launch) (y : MethodName) (cc : ByteArray) (nL : Nat) (ret : Option FieldType) (fr lo mc ms : Nat) (av : List Value) (G : GT) (post : Option Value → GT → Prop) (xp : String → GT → Prop) : Prop :=
  vx_Met l y (wsm y cc nL ret) ({ frames := fr, cells := mc, slots := ms, locals := lo } : Room) (PC E av G) (QC E post) (XC E xp) mc ms (bA E)
def MTQ (E : EV) (below : List Frame) (args : Array Value) (s : State) (mc ms : Nat) (post : Option Value → GT → Prop) : State → Prop := MQ below (QC E post) args s mc ms (bA E)
def MXQ (E : EV) (below : List Frame) (args : Array Value) (s : State) (mc ms : Nat) (post : Option Value → GT → Prop) (xp : String → GT → Prop) : State → Prop := vx_MQ below (QC E post) (XC E xp) args s mc ms (bA E)
/-- what holds in a method's body throughout -/
def CX (E : EV) (p : Program) (R : Room) (s : State) (m : MethodId) (args : Array Value) (meth : Method) (c : Code) (cc : ByteArray) (nL : Nat) (own : String) (mc ms : Nat) (ret : Option FieldType) : Prop :=
  p.tables.exec = Jvm.exec ∧ c.code = cc ∧ c.maxLocals = nL ∧ s.vm.findClass own = some m.cls ∧ (∀ w ∈ AW, w.before args s = true) ∧ va_K E.1 CL (tyE E) s ∧ ST E s s.heap ∧ E.2.2.1 ≤ s.heap.size ∧ (mc ≤ R.cells ∧ ms ≤ R.slots) ∧ meth.sig.returnType = ret ∧ meth.locks = false ∧ ∀ w ∈ NW, va_Nw w s
def XW (E : EV) (p : Program) (l : Launch) (e : Env) (R : Room) (s : State) (m : MethodId) (args : Array Value) (below : List Frame) (meth : Method) (c : Code) (nL mc ms : Nat) (Q : State → Prop) (G : GT) (kc ks pc : Nat) (L : List (Option Value)) (st : List Value) : Prop :=
  ∀ (H : Heap) (locs : List Loc) (cells slots : Nat) (ls : Array Slot), hp E G H → va_S (bA E) s.heap H locs → XL ls nL L → cells + kc ≤ mc → slots + ks ≤ ms → W p l e R s m args below meth c H locs cells slots Q (F0 m pc ls st)
section XR
variable {E : EV} {p : Program} {l : Launch} {e : Env} {R : Room} {s : State} {m : MethodId} {args : Array Value} {below : List Frame} {meth : Method} {c : Code} {cc : ByteArray} {nL mc ms : Nat} {own : String} {ret : Option FieldType} {Q : State → Prop} {G : GT} {kc ks pc : Nat} {L : List (Option Value)} {st : List Value}
/-! numbers, locals, the stack -/
theorem x_iconst (n : Nat) (C : CX E p R s m args meth c cc nL own mc ms ret) {v : Int} (d : decode cc pc = .ok (.iconst v, 1)) (hn : pc + 1 = n)
    (k : XW E p l e R s m args below meth c nL mc ms Q G kc ks n L (.int (i32 v) :: st)) : XW E p l e R s m args below meth c nL mc ms Q G kc ks pc L st := by
  subst hn
  intro H locs cells slots ls h1 h2 h3 h4 h5
  exact lv_iconst C.1 C.2.1 d rfl (k H locs cells slots ls h1 h2 h3 h4 h5)
theorem x_bipush (n : Nat) (C : CX E p R s m args meth c cc nL own mc ms ret) {v : Int} (d : decode cc pc = .ok (.bipush v, 2)) (hn : pc + 2 = n) (hv : (Int8.ofInt v).toInt32 = i32 v)
    (k : XW E p l e R s m args below meth c nL mc ms Q G kc ks n L (.int (i32 v) :: st)) : XW E p l e R s m args below meth c nL mc ms Q G kc ks pc L st := by
  subst hn
  intro H locs cells slots ls h1 h2 h3 h4 h5
  exact lv_bipush C.1 C.2.1 d hv (k H locs cells slots ls h1 h2 h3 h4 h5)
theorem x_sipush (n : Nat) (C : CX E p R s m args meth c cc nL own mc ms ret) {v : Int} (d : decode cc pc = .ok (.sipush v, 3)) (hn : pc + 3 = n) (hv : (Int16.ofInt v).toInt32 = i32 v)
    (k : XW E p l e R s m args below meth c nL mc ms Q G kc ks n L (.int (i32 v) :: st)) : XW E p l e R s m args below meth c nL mc ms Q G kc ks pc L st := by
  subst hn
  intro H locs cells slots ls h1 h2 h3 h4 h5
  exact lv_sipush C.1 C.2.1 d hv (k H locs cells slots ls h1 h2 h3 h4 h5)
theorem x_ldc (n : Nat) (C : CX E p R s m args meth c cc nL own mc ms ret) {i : Nat} {v : Int} (hc : (Cond.constant own i (i32 v)) ∈ AW) (d : decode cc pc = .ok (.ldc i, 2)) (hn : pc + 2 = n)
    (k : XW E p l e R s m args below meth c nL mc ms Q G kc ks n L (.int (i32 v) :: st)) : XW E p l e R s m args below meth c nL mc ms Q G kc ks pc L st := by
  subst hn
  intro H locs cells slots ls h1 h2 h3 h4 h5
  exact lv_ldc C.1 C.2.1 C.2.2.2.1 (C.2.2.2.2.1 _ hc) d (k H locs cells slots ls h1 h2 h3 h4 h5)
theorem x_iload_n (n : Nat) (C : CX E p R s m args meth c cc nL own mc ms ret) {i : Fin 4} {x : Int32} (d : decode cc pc = .ok (.iload_n i, 1)) (hn : pc + 1 = n) (hi : L[i.val]? = some (some (.int x)))
    (k : XW E p l e R s m args below meth c nL mc ms Q G kc ks n L (.int x :: st)) : XW E p l e R s m args below meth c nL mc ms Q G kc ks pc L st := by
  subst hn
  intro H locs cells slots ls h1 h2 h3 h4 h5
  exact lv_iload_n C.1 C.2.1 d rfl (h3.get hi) (k H locs cells slots ls h1 h2 h3 h4 h5)
theorem x_iload (n : Nat) (C : CX E p R s m args meth c cc nL own mc ms ret) {i : Nat} {x : Int32} (d : decode cc pc = .ok (.iload i, 2)) (hn : pc + 2 = n) (hi : L[i]? = some (some (.int x)))
    (k : XW E p l e R s m args below meth c nL mc ms Q G kc ks n L (.int x :: st)) : XW E p l e R s m args below meth c nL mc ms Q G kc ks pc L st := by
  subst hn
  intro H locs cells slots ls h1 h2 h3 h4 h5
  exact lv_iload C.1 C.2.1 d (h3.get hi) (k H locs cells slots ls h1 h2 h3 h4 h5)
theorem x_aload_n (n : Nat) (C : CX E p R s m args meth c cc nL own mc ms ret) {i : Fin 4} {x : Nat} (d : decode cc pc = .ok (.aload_n i, 1)) (hn : pc + 1 = n) (hi : L[i.val]? = some (some (.ref x)))
    (k : XW E p l e R s m args below meth c nL mc ms Q G kc ks n L (.ref x :: st)) : XW E p l e R s m args below meth c nL mc ms Q G kc ks pc L st := by
  subst hn
  intro H locs cells slots ls h1 h2 h3 h4 h5
  exact lv_aload_n C.1 C.2.1 d rfl (h3.get hi) (k H locs cells slots ls h1 h2 h3 h4 h5)
theorem x_aload (n : Nat) (C : CX E p R s m args meth c cc nL own mc ms ret) {i : Nat} {x : Nat} (d : decode cc pc = .ok (.aload i, 2)) (hn : pc + 2 = n) (hi : L[i]? = some (some (.ref x)))
    (k : XW E p l e R s m args below meth c nL mc ms Q G kc ks n L (.ref x :: st)) : XW E p l e R s m args below meth c nL mc ms Q G kc ks pc L st := by
  subst hn
  intro H locs cells slots ls h1 h2 h3 h4 h5
  exact lv_aload C.1 C.2.1 d (h3.get hi) (k H locs cells slots ls h1 h2 h3 h4 h5)
/-- a reference that may be null -/
theorem x_aload_nq (n : Nat) (C : CX E p R s m args meth c cc nL own mc ms ret) {i : Fin 4} {r : Option Nat} (d : decode cc pc = .ok (.aload_n i, 1)) (hn : pc + 1 = n) (hi : L[i.val]? = some (some (va_rf r)))
    (k : XW E p l e R s m args below meth c nL mc ms Q G kc ks n L (va_rf r :: st)) : XW E p l e R s m args below meth c nL mc ms Q G kc ks pc L st := by
  subst hn
  intro H locs cells slots ls h1 h2 h3 h4 h5
  cases r with
  | none => exact lv_aload_nN C.1 C.2.1 d rfl (h3.get hi) (k H locs cells slots ls h1 h2 h3 h4 h5)
  | some x => exact lv_aload_n C.1 C.2.1 d rfl (h3.get hi) (k H locs cells slots ls h1 h2 h3 h4 h5)
theorem x_aloadq (n : Nat) (C : CX E p R s m args meth c cc nL own mc ms ret) {i : Nat} {r : Option Nat} (d : decode cc pc = .ok (.aload i, 2)) (hn : pc + 2 = n) (hi : L[i]? = some (some (va_rf r)))
    (k : XW E p l e R s m args below meth c nL mc ms Q G kc ks n L (va_rf r :: st)) : XW E p l e R s m args below meth c nL mc ms Q G kc ks pc L st := by
  subst hn
  intro H locs cells slots ls h1 h2 h3 h4 h5
  cases r with
  | none => exact lv_aloadN C.1 C.2.1 d (h3.get hi) (k H locs cells slots ls h1 h2 h3 h4 h5)
  | some x => exact lv_aload C.1 C.2.1 d (h3.get hi) (k H locs cells slots ls h1 h2 h3 h4 h5)
theorem x_istore_n (n : Nat) (C : CX E p R s m args meth c cc nL own mc ms ret) {i : Fin 4} {x : Int32} {L' : List (Option Value)} (d : decode cc pc = .ok (.istore_n i, 1)) (hn : pc + 1 = n) (hi : Nat.blt i.val nL = true) (hL : L.set i.val (some (.int x)) = L')
    (k : XW E p l e R s m args below meth c nL mc ms Q G kc ks n L' st) : XW E p l e R s m args below meth c nL mc ms Q G kc ks pc L (.int x :: st) := by
  subst hn
  intro H locs cells slots ls h1 h2 h3 h4 h5
  exact lv_istore_n C.1 C.2.1 d rfl h3.has (Nat.le_of_ble_eq_true hi) rfl (fun ls' h => k H locs cells slots ls' h1 h2 (h3.store rfl h hL) h4 h5)
theorem x_istore (n : Nat) (C : CX E p R s m args meth c cc nL own mc ms ret) {i : Nat} {x : Int32} {L' : List (Option Value)} (d : decode cc pc = .ok (.istore i, 2)) (hn : pc + 2 = n) (hi : Nat.blt i nL = true) (hL : L.set i (some (.int x)) = L')
    (k : XW E p l e R s m args below meth c nL mc ms Q G kc ks n L' st) : XW E p l e R s m args below meth c nL mc ms Q G kc ks pc L (.int x :: st) := by
  subst hn
  intro H locs cells slots ls h1 h2 h3 h4 h5
  exact lv_istore C.1 C.2.1 d h3.has (Nat.le_of_ble_eq_true hi) rfl (fun ls' h => k H locs cells slots ls' h1 h2 (h3.store rfl h hL) h4 h5)
theorem x_astore_n (n : Nat) (C : CX E p R s m args meth c cc nL own mc ms ret) {i : Fin 4} {x : Nat} {L' : List (Option Value)} (d : decode cc pc = .ok (.astore_n i, 1)) (hn : pc + 1 = n) (hi : Nat.blt i.val nL = true) (hL : L.set i.val (some (.ref x)) = L')
    (k : XW E p l e R s m args below meth c nL mc ms Q G kc ks n L' st) : XW E p l e R s m args below meth c nL mc ms Q G kc ks pc L (.ref x :: st) := by
  subst hn
  intro H locs cells slots ls h1 h2 h3 h4 h5
  exact lv_astore_n C.1 C.2.1 d rfl h3.has (Nat.le_of_ble_eq_true hi) rfl (fun ls' h => k H locs cells slots ls' h1 h2 (h3.store rfl h hL) h4 h5)
theorem x_astore (n : Nat) (C : CX E p R s m args meth c cc nL own mc ms ret) {i : Nat} {x : Nat} {L' : List (Option Value)} (d : decode cc pc = .ok (.astore i, 2)) (hn : pc + 2 = n) (hi : Nat.blt i nL = true) (hL : L.set i (some (.ref x)) = L')
    (k : XW E p l e R s m args below meth c nL mc ms Q G kc ks n L' st) : XW E p l e R s m args below meth c nL mc ms Q G kc ks pc L (.ref x :: st) := by
  subst hn
  intro H locs cells slots ls h1 h2 h3 h4 h5
  exact lv_astore C.1 C.2.1 d h3.has (Nat.le_of_ble_eq_true hi) rfl (fun ls' h => k H locs cells slots ls' h1 h2 (h3.store rfl h hL) h4 h5)
theorem x_astore_nq (n : Nat) (C : CX E p R s m args meth c cc nL own mc ms ret) {i : Fin 4} {r : Option Nat} {L' : List (Option Value)} (d : decode cc pc = .ok (.astore_n i, 1)) (hn : pc + 1 = n) (hi : Nat.blt i.val nL = true) (hL : L.set i.val (some (va_rf r)) = L')
    (k : XW E p l e R s m args below meth c nL mc ms Q G kc ks n L' st) : XW E p l e R s m args below meth c nL mc ms Q G kc ks pc L (va_rf r :: st) := by
  subst hn
  intro H locs cells slots ls h1 h2 h3 h4 h5
  cases r with
  | none => exact lv_astore_nN C.1 C.2.1 d rfl h3.has (Nat.le_of_ble_eq_true hi) rfl (fun ls' h => k H locs cells slots ls' h1 h2 (h3.store rfl h hL) h4 h5)
  | some x => exact lv_astore_n C.1 C.2.1 d rfl h3.has (Nat.le_of_ble_eq_true hi) rfl (fun ls' h => k H locs cells slots ls' h1 h2 (h3.store rfl h hL) h4 h5)
theorem x_astoreq (n : Nat) (C : CX E p R s m args meth c cc nL own mc ms ret) {i : Nat} {r : Option Nat} {L' : List (Option Value)} (d : decode cc pc = .ok (.astore i, 2)) (hn : pc + 2 = n) (hi : Nat.blt i nL = true) (hL : L.set i (some (va_rf r)) = L')
    (k : XW E p l e R s m args below meth c nL mc ms Q G kc ks n L' st) : XW E p l e R s m args below meth c nL mc ms Q G kc ks pc L (va_rf r :: st) := by
  subst hn
  intro H locs cells slots ls h1 h2 h3 h4 h5
  cases r with
  | none => exact lv_astoreN C.1 C.2.1 d h3.has (Nat.le_of_ble_eq_true hi) rfl (fun ls' h => k H locs cells slots ls' h1 h2 (h3.store rfl h hL) h4 h5)
  | some x => exact lv_astore C.1 C.2.1 d h3.has (Nat.le_of_ble_eq_true hi) rfl (fun ls' h => k H locs cells slots ls' h1 h2 (h3.store rfl h hL) h4 h5)
theorem x_iinc (n : Nat) (C : CX E p R s m args meth c cc nL own mc ms ret) {i : Nat} {v x : Int} {L' : List (Option Value)} (d : decode cc pc = .ok (.iinc i v, 3)) (hn : pc + 3 = n) (hi : Nat.blt i nL = true) (hg : L[i]? = some (some (.int (i32 x)))) (hL : L.set i (some (.int (i32 (x + v)))) = L')
    (k : XW E p l e R s m args below meth c nL mc ms Q G kc ks n L' st) : XW E p l e R s m args below meth c nL mc ms Q G kc ks pc L st := by
  subst hn
  intro H locs cells slots ls h1 h2 h3 h4 h5
  have hm : (i, Value.int (i32 x)) ∈ asc 0 L := (asc_mem L 0 i _).mpr ⟨i, by omega, hg⟩
  obtain ⟨j, hj⟩ := List.getElem?_of_mem hm
  exact lv_iinc (v := i32 (x + v)) C.1 C.2.1 d h3.has hj (i32_add x v) (Nat.le_of_ble_eq_true hi) rfl (fun ls' h => k H locs cells slots ls' h1 h2 (h3.store rfl h hL) h4 h5)
theorem x_iadd (n : Nat) (C : CX E p R s m args meth c cc nL own mc ms ret) {x y : Int} (d : decode cc pc = .ok (.iadd, 1)) (hn : pc + 1 = n)
    (k : XW E p l e R s m args below meth c nL mc ms Q G kc ks n L (.int (i32 (x + y)) :: st)) : XW E p l e R s m args below meth c nL mc ms Q G kc ks pc L (.int (i32 y) :: .int (i32 x) :: st) := by
  subst hn
  intro H locs cells slots ls h1 h2 h3 h4 h5
  exact lv_iadd C.1 C.2.1 d (by rw [i32_add]; exact k H locs cells slots ls h1 h2 h3 h4 h5)
theorem x_isub (n : Nat) (C : CX E p R s m args meth c cc nL own mc ms ret) {x y : Int} (d : decode cc pc = .ok (.isub, 1)) (hn : pc + 1 = n)
    (k : XW E p l e R s m args below meth c nL mc ms Q G kc ks n L (.int (i32 (x - y)) :: st)) : XW E p l e R s m args below meth c nL mc ms Q G kc ks pc L (.int (i32 y) :: .int (i32 x) :: st) := by
  subst hn
  intro H locs cells slots ls h1 h2 h3 h4 h5
  exact lv_isub C.1 C.2.1 d (by rw [i32_sub]; exact k H locs cells slots ls h1 h2 h3 h4 h5)
theorem x_imul (n : Nat) (C : CX E p R s m args meth c cc nL own mc ms ret) {x y : Int} (d : decode cc pc = .ok (.imul, 1)) (hn : pc + 1 = n)
    (k : XW E p l e R s m args below meth c nL mc ms Q G kc ks n L (.int (i32 (x * y)) :: st)) : XW E p l e R s m args below meth c nL mc ms Q G kc ks pc L (.int (i32 y) :: .int (i32 x) :: st) := by
  subst hn
  intro H locs cells slots ls h1 h2 h3 h4 h5
  exact lv_imul C.1 C.2.1 d (by rw [i32_mul]; exact k H locs cells slots ls h1 h2 h3 h4 h5)
theorem x_iand (n : Nat) (C : CX E p R s m args meth c cc nL own mc ms ret) {x y : Int} (d : decode cc pc = .ok (.iand, 1)) (hn : pc + 1 = n)
    (k : XW E p l e R s m args below meth c nL mc ms Q G kc ks n L (.int (i32 (iand x y)) :: st)) : XW E p l e R s m args below meth c nL mc ms Q G kc ks pc L (.int (i32 y) :: .int (i32 x) :: st) := by
  subst hn
  intro H locs cells slots ls h1 h2 h3 h4 h5
  exact lv_iand C.1 C.2.1 d (by rw [i32_and]; exact k H locs cells slots ls h1 h2 h3 h4 h5)
theorem x_ior (n : Nat) (C : CX E p R s m args meth c cc nL own mc ms ret) {x y : Int} (d : decode cc pc = .ok (.ior, 1)) (hn : pc + 1 = n)
    (k : XW E p l e R s m args below meth c nL mc ms Q G kc ks n L (.int (i32 (ior x y)) :: st)) : XW E p l e R s m args below meth c nL mc ms Q G kc ks pc L (.int (i32 y) :: .int (i32 x) :: st) := by
  subst hn
  intro H locs cells slots ls h1 h2 h3 h4 h5
  exact lv_ior C.1 C.2.1 d (by rw [i32_or]; exact k H locs cells slots ls h1 h2 h3 h4 h5)
theorem x_idiv (n : Nat) (C : CX E p R s m args meth c cc nL own mc ms ret) {x y : Int} (d : decode cc pc = .ok (.idiv, 1)) (hn : pc + 1 = n) (hr : (0 ≤ x ∧ x ≤ 2147483647) ∧ (0 < y ∧ y ≤ 2147483647))
    (k : XW E p l e R s m args below meth c nL mc ms Q G kc ks n L (.int (i32 (x / y)) :: st)) : XW E p l e R s m args below meth c nL mc ms Q G kc ks pc L (.int (i32 y) :: .int (i32 x) :: st) := by
  subst hn
  intro H locs cells slots ls h1 h2 h3 h4 h5
  have hx : InR x := ⟨by omega, hr.1.2⟩
  have hy : InR y := ⟨by omega, hr.2.2⟩
  exact lv_idiv C.1 C.2.1 d (fun z => by rw [i32_0] at z; have := i32_inj hy ⟨by omega, by omega⟩ z; omega) (by rw [i32_div hx hy hr.1.1 hr.2.1]; exact k H locs cells slots ls h1 h2 h3 h4 h5)
theorem x_irem (n : Nat) (C : CX E p R s m args meth c cc nL own mc ms ret) {x y : Int} (d : decode cc pc = .ok (.irem, 1)) (hn : pc + 1 = n) (hr : (0 ≤ x ∧ x ≤ 2147483647) ∧ (0 < y ∧ y ≤ 2147483647))
    (k : XW E p l e R s m args below meth c nL mc ms Q G kc ks n L (.int (i32 (x % y)) :: st)) : XW E p l e R s m args below meth c nL mc ms Q G kc ks pc L (.int (i32 y) :: .int (i32 x) :: st) := by
  subst hn
  intro H locs cells slots ls h1 h2 h3 h4 h5
  have hx : InR x := ⟨by omega, hr.1.2⟩
  have hy : InR y := ⟨by omega, hr.2.2⟩
  exact lv_irem C.1 C.2.1 d (fun z => by rw [i32_0] at z; have := i32_inj hy ⟨by omega, by omega⟩ z; omega) (by rw [i32_rem hx hy hr.1.1 hr.2.1]; exact k H locs cells slots ls h1 h2 h3 h4 h5)
theorem x_dup (n : Nat) (C : CX E p R s m args meth c cc nL own mc ms ret) {v : Value} (d : decode cc pc = .ok (.dup, 1)) (hn : pc + 1 = n) (hv : v.category = 1)
    (k : XW E p l e R s m args below meth c nL mc ms Q G kc ks n L (v :: v :: st)) : XW E p l e R s m args below meth c nL mc ms Q G kc ks pc L (v :: st) := by
  subst hn
  intro H locs cells slots ls h1 h2 h3 h4 h5
  exact lv_dup C.1 C.2.1 d hv (k H locs cells slots ls h1 h2 h3 h4 h5)
theorem x_pop (n : Nat) (C : CX E p R s m args meth c cc nL own mc ms ret) {v : Value} (d : decode cc pc = .ok (.pop, 1)) (hn : pc + 1 = n) (hv : v.category = 1)
    (k : XW E p l e R s m args below meth c nL mc ms Q G kc ks n L st) : XW E p l e R s m args below meth c nL mc ms Q G kc ks pc L (v :: st) := by
  subst hn
  intro H locs cells slots ls h1 h2 h3 h4 h5
  exact lv_pop C.1 C.2.1 d hv (k H locs cells slots ls h1 h2 h3 h4 h5)
theorem x_dup_x1 (n : Nat) (C : CX E p R s m args meth c cc nL own mc ms ret) {v w : Value} (d : decode cc pc = .ok (.dup_x1, 1)) (hn : pc + 1 = n) (hv : v.category = 1) (hw : w.category = 1)
    (k : XW E p l e R s m args below meth c nL mc ms Q G kc ks n L (v :: w :: v :: st)) : XW E p l e R s m args below meth c nL mc ms Q G kc ks pc L (v :: w :: st) := by
  subst hn
  intro H locs cells slots ls h1 h2 h3 h4 h5
  exact lv_dup_x1 C.1 C.2.1 d hv hw (k H locs cells slots ls h1 h2 h3 h4 h5)
theorem x_dup2 (n : Nat) (C : CX E p R s m args meth c cc nL own mc ms ret) {v w : Value} (d : decode cc pc = .ok (.dup2, 1)) (hn : pc + 1 = n) (hv : v.category = 1) (hw : w.category = 1)
    (k : XW E p l e R s m args below meth c nL mc ms Q G kc ks n L (v :: w :: v :: w :: st)) : XW E p l e R s m args below meth c nL mc ms Q G kc ks pc L (v :: w :: st) := by
  subst hn
  intro H locs cells slots ls h1 h2 h3 h4 h5
  exact lv_dup2_11 C.1 C.2.1 d hv hw (k H locs cells slots ls h1 h2 h3 h4 h5)
theorem x_goto (n : Nat) (C : CX E p R s m args meth c cc nL own mc ms ret) {off : Int} (d : decode cc pc = .ok (.goto off, 3)) (ht : (pc : Int) + off = (n : Int))
    (k : XW E p l e R s m args below meth c nL mc ms Q G kc ks n L st) : XW E p l e R s m args below meth c nL mc ms Q G kc ks pc L st := by
  intro H locs cells slots ls h1 h2 h3 h4 h5
  exact lv_goto C.1 C.2.1 d ht (k H locs cells slots ls h1 h2 h3 h4 h5)
theorem x_null (n : Nat) (C : CX E p R s m args meth c cc nL own mc ms ret) (d : decode cc pc = .ok (.aconst_null, 1)) (hn : pc + 1 = n)
    (k : XW E p l e R s m args below meth c nL mc ms Q G kc ks n L (va_rf none :: st)) : XW E p l e R s m args below meth c nL mc ms Q G kc ks pc L st := by
  subst hn
  intro H locs cells slots ls h1 h2 h3 h4 h5
  exact lv_null C.1 C.2.1 d (k H locs cells slots ls h1 h2 h3 h4 h5)
/-- less to spend, or more known to be there -/
theorem x_weak {kc' ks' : Nat} (h1 : kc' ≤ kc) (h2 : ks' ≤ ks) (k : XW E p l e R s m args below meth c nL mc ms Q G kc' ks' pc L st) : XW E p l e R s m args below meth c nL mc ms Q G kc ks pc L st :=
  fun H locs cells slots ls a1 a2 a3 a4 a5 => k H locs cells slots ls a1 a2 a3 (by omega) (by omega)
theorem x_wf (k : wfG G → XW E p l e R s m args below meth c nL mc ms Q G kc ks pc L st) : XW E p l e R s m args below meth c nL mc ms Q G kc ks pc L st :=
  fun H locs cells slots ls a1 a2 a3 a4 a5 => k a1.wf H locs cells slots ls a1 a2 a3 a4 a5
end XR
