/-! the law's own instructions: long numbers, the script, handlers -/
theorem rk_i2l {v : Int} (h : InR v) : (i32 v).toInt64 = Int64.ofInt v := by
  refine Int64.toInt_inj.mp ?_
  rw [Int32.toInt_toInt64, i32_toInt h, Int64.toInt_ofInt_of_le (by have := h.1; omega) (by have := h.2; omega)]
theorem rk_cmp {x y : Int} (hx : InR x) (hy : InR y) : lg_cmp (Int64.ofInt x) (Int64.ofInt y) = i32 (if y < x then 1 else if x = y then 0 else -1) := by
  have ex : (Int64.ofInt x).toInt = x := Int64.toInt_ofInt_of_le (by have := hx.1; omega) (by have := hx.2; omega)
  have ey : (Int64.ofInt y).toInt = y := Int64.toInt_ofInt_of_le (by have := hy.1; omega) (by have := hy.2; omega)
  unfold lg_cmp
  by_cases c : y < x
  · rw [if_pos c, if_pos (show Int64.ofInt x > Int64.ofInt y from Int64.lt_iff_toInt_lt.mpr (by rw [ex, ey]; exact c))]
    rfl
  · rw [if_neg c, if_neg (fun z => c (by have z2 := Int64.lt_iff_toInt_lt.mp z; rw [ex, ey] at z2; exact z2))]
    by_cases d : x = y
    · rw [if_pos d, if_pos (by rw [d])]
      rfl
    · rw [if_neg d, if_neg (fun z => d (by have z2 := congrArg Int64.toInt z; rw [ex, ey] at z2; exact z2))]
      rfl
section LAWX
variable {E : EV} {p : Program} {l : Launch} {e : Env} {R : Room} {s : State} {m : MethodId} {args : Array Value} {below : List Frame} {meth : Method} {c : Code} {cc : ByteArray} {nL mc ms : Nat} {own : String} {ret : Option FieldType} {Q : State → Prop} {G : GT} {kc ks pc : Nat} {L : List (Option Value)} {st st0 : List Value}
variable {y : MethodName} {cc1 : ByteArray} {nL1 : Nat} {ret1 : Option FieldType} {fr1 lo1 mc1 ms1 idx b : Nat} {As : List Value} {post post1 : Option Value → GT → Prop} {xp xp1 : String → GT → Prop} {a : Array Value}
theorem x_i2l (n : Nat) (C : CX E p R s m args meth c cc nL own mc ms ret) {v : Int} (hv : InR v) (d : decode cc pc = .ok (.i2l, 1)) (hn : pc + 1 = n)
    (k : XW E p l e R s m args below meth c nL mc ms Q G kc ks n L (.long (Int64.ofInt v) :: st)) : XW E p l e R s m args below meth c nL mc ms Q G kc ks pc L (.int (i32 v) :: st) := by
  subst hn
  intro H locs cells slots ls h1 h2 h3 h4 h5
  exact lv_i2l C.1 C.2.1 d (rk_i2l hv) (k H locs cells slots ls h1 h2 h3 h4 h5)
theorem x_lconst0 (n : Nat) (C : CX E p R s m args meth c cc nL own mc ms ret) (d : decode cc pc = .ok (.lconst 0, 1)) (hn : pc + 1 = n)
    (k : XW E p l e R s m args below meth c nL mc ms Q G kc ks n L (.long (Int64.ofInt 0) :: st)) : XW E p l e R s m args below meth c nL mc ms Q G kc ks pc L st := by
  subst hn
  intro H locs cells slots ls h1 h2 h3 h4 h5
  exact lv_lconst C.1 C.2.1 d (by decide) (k H locs cells slots ls h1 h2 h3 h4 h5)
theorem x_lconst1 (n : Nat) (C : CX E p R s m args meth c cc nL own mc ms ret) (d : decode cc pc = .ok (.lconst 1, 1)) (hn : pc + 1 = n)
    (k : XW E p l e R s m args below meth c nL mc ms Q G kc ks n L (.long (Int64.ofInt 1) :: st)) : XW E p l e R s m args below meth c nL mc ms Q G kc ks pc L st := by
  subst hn
  intro H locs cells slots ls h1 h2 h3 h4 h5
  exact lv_lconst C.1 C.2.1 d (by decide) (k H locs cells slots ls h1 h2 h3 h4 h5)
theorem x_lcmp (n : Nat) (C : CX E p R s m args meth c cc nL own mc ms ret) {x v : Int} (hx : InR x) (hv : InR v) (d : decode cc pc = .ok (.lcmp, 1)) (hn : pc + 1 = n)
    (k : XW E p l e R s m args below meth c nL mc ms Q G kc ks n L (.int (i32 (if v < x then 1 else if x = v then 0 else -1)) :: st)) : XW E p l e R s m args below meth c nL mc ms Q G kc ks pc L (.long (Int64.ofInt v) :: .long (Int64.ofInt x) :: st) := by
  subst hn
  intro H locs cells slots ls h1 h2 h3 h4 h5
  refine W.lcmp C.1 C.2.1 d ?_
  rw [rk_cmp hx hv]
  exact k H locs cells slots ls h1 h2 h3 h4 h5
theorem ent_row1 {a : Nat} (hk : gK G a = 26) : ent E G a = some (.inl (E.2.1 4, 1, .inr (.inl (fun j => Int64.ofInt (gA G a j))))) := by
  unfold ent
  rw [if_neg (by omega), if_neg (by omega), if_neg (by omega), if_pos hk]
theorem x_lald1 (n : Nat) {a : Nat} (C : CX E p R s m args meth c cc nL own mc ms ret) (hk : gK G a = 26) (d : decode cc pc = .ok (.laload, 1)) (hn : pc + 1 = n)
    (k : XW E p l e R s m args below meth c nL mc ms Q G kc ks n L (.long (Int64.ofInt (gA G a 0)) :: st)) : XW E p l e R s m args below meth c nL mc ms Q G kc ks pc L (.int (i32 0) :: .ref a :: st) := by
  subst hn
  intro H locs cells slots ls h1 h2 h3 h4 h5
  have g := (h1.get (ent_row1 hk)).1
  have hP : va_P E.1 CL [(a, .inl (E.2.1 4, 1, .inr (.inl (fun j => Int64.ofInt (gA G a j)))))] H := fun k q hq => by
    cases k with
    | zero => cases hq; exact g
    | succ k => simp at hq
  exact va_lald C.1 C.2.1 C.2.2.2.2.2.1 hP 0 4 rfl rfl (i32_idx (n := 1) ⟨by omega, by omega⟩ (by omega) (by omega)) d (by rw [i32_clamp ⟨by omega, by omega⟩ (by omega)]; exact k H locs cells slots ls h1 h2 h3 h4 h5)
theorem hp_sA1 {H H1 : Heap} {a : Nat} {v : Int} (h : hp E G H) (hk : gK G a = 26) (hv : InR v) (hat : va_at E.1 CL (a, .inl (E.2.1 4, 1, .inr (.inl (fun i => if i = 0 then Int64.ofInt v else Int64.ofInt (gA G a i))))) H1) (hq : ∀ q : Nat, q ≠ a → H1[q]? = H[q]?) : hp E (sA G a 0 v) H1 := by
  have e : (fun i => if i = 0 then Int64.ofInt v else Int64.ofInt (gA G a i)) = fun i => Int64.ofInt (gA (sA G a 0 v) a i) := by
    funext i
    show _ = Int64.ofInt (u2 (gA G) a 0 v a i)
    by_cases hi : i = 0
    · subst hi; rw [if_pos rfl, u2_s]
    · rw [if_neg hi, u2_a hi]
  rw [e] at hat
  exact h.put (ent_row1 hk) (ent_row1 (G := sA G a 0 v) hk) rfl rfl (fun x hx => ent_eq rfl (fun _ => rfl) (fun _ => rfl) (fun i => u2_k (f := gA G) hx) (fun _ _ _ => rfl)) (wf_sA h.wf hv) hat hq
theorem x_last1 (n : Nat) {a : Nat} {v : Int} (C : CX E p R s m args meth c cc nL own mc ms ret) (hk : gK G a = 26) (hv : InR v) (d : decode cc pc = .ok (.lastore, 1)) (hn : pc + 1 = n)
    (k : XW E p l e R s m args below meth c nL mc ms Q (sA G a 0 v) kc ks n L st) : XW E p l e R s m args below meth c nL mc ms Q G kc ks pc L (.long (Int64.ofInt v) :: .int (i32 0) :: .ref a :: st) := by
  subst hn
  intro H locs cells slots ls h1 h2 h3 h4 h5
  have g := h1.get (ent_row1 hk)
  refine W.last C.1 C.2.1 g.1 ((C.2.2.2.2.2.1.2 4 _ rfl).1 1 (fun j => .long (Int64.ofInt (gA G a j)))) (fun q => by cases q) (by show ¬ (i32 0 < 0 ∨ (arrV _ _ _).slots.size ≤ _); rw [arrV_size]; exact i32_idx (n := 1) ⟨by omega, by omega⟩ (by omega) (by omega)) rfl rfl d fun H1 e1 z oq => ?_
  refine k H1 _ cells slots ls (hp_sA1 h1 hk hv ?_ oq) (h2.put z oq g.2) h3 h4 h5
  show H1[a]? = some (vp_cell _ _)
  rw [e1, vp_cell_l, vp_cell_l, arrV_store]
  congr 2
  funext q
  rw [i32_clamp (x := 0) ⟨by omega, by omega⟩ (by omega)]
  by_cases hq : q = 0
  · subst hq; simp [updV]
  · simp [updV, hq]
/-- the script -/
theorem x_sld (n : Nat) {bS LS : Nat} {xs : Nat → Int32} {i : Int} (C : CX E p R s m args meth c cc nL own mc ms ret) (hX : va_X bS LS xs s s.heap) (hbl : bS < s.heap.size) (hE : s.heap.size ≤ E.2.2.1) (hi : 0 ≤ i ∧ i < LS ∧ InR i) (d : decode cc pc = .ok (.iaload, 1)) (hn : pc + 1 = n)
    (k : XW E p l e R s m args below meth c nL mc ms Q G kc ks n L (.int (i32 (xs i.toNat).toInt) :: st)) : XW E p l e R s m args below meth c nL mc ms Q G kc ks pc L (.int (i32 i) :: .ref bS :: st) := by
  subst hn
  intro H locs cells slots ls h1 h2 h3 h4 h5
  refine va_sld C.1 C.2.1 hX hbl (fun z => by have z2 : E.2.2.1 ≤ bS := z; omega) h2 (i32_idx hi.2.2 hi.1 hi.2.1) d ?_
  rw [i32_clamp hi.2.2 hi.1, ← i32_self (xs i.toNat)]
  exact k H locs cells slots ls h1 h2 h3 h4 h5
theorem x_slen (n : Nat) {bS LS : Nat} {xs : Nat → Int32} (C : CX E p R s m args meth c cc nL own mc ms ret) (hX : va_X bS LS xs s s.heap) (hbl : bS < s.heap.size) (hE : s.heap.size ≤ E.2.2.1) (d : decode cc pc = .ok (.arraylength, 1)) (hn : pc + 1 = n)
    (k : XW E p l e R s m args below meth c nL mc ms Q G kc ks n L (.int (i32 (LS : Int)) :: st)) : XW E p l e R s m args below meth c nL mc ms Q G kc ks pc L (.ref bS :: st) := by
  subst hn
  intro H locs cells slots ls h1 h2 h3 h4 h5
  refine va_slen C.1 C.2.1 hX hbl (fun z => by have z2 : E.2.2.1 ≤ bS := z; omega) h2 d ?_
  exact k H locs cells slots ls h1 h2 h3 h4 h5
/-- what a handler needs of the tables -/
def rkHd (own : String) (c : Code) (pc : Nat) (nx : String) (t : Nat) : Prop := ∃ (pre : List ExceptionTableEntry) (x : ExceptionTableEntry) (suf : List ExceptionTableEntry), c.exceptionTable.toList = pre ++ x :: suf ∧
  (∀ z ∈ pre, z.catchType ≠ 0 ∧ ∃ nm : String, Cond.classLink own z.catchType nm ∈ AW ∧ (nx, nm) ∈ ncx) ∧ covers x pc = true ∧ x.catchType ≠ 0 ∧ (∃ name : String, Cond.classLink own x.catchType name ∈ AW ∧ Cond.castable nx name ∈ NW) ∧ x.handlerPc = t
/-- a call whose throw is caught here -/
theorem x_callVC (n0 ci kc' ks' : Nat) {n : Nat} {Cn : String} {Tn : u_T} {N : Nat} (C : CX E p R s m args meth c cc nL own mc ms ret) (hV : VW own idx y cc1 nL1 ret1 n) (hi : Cond.instanceMethod y ∈ AW) (hs : Cond.selects y.cls y y ∈ AW) (hM : MX E l y cc1 nL1 ret1 fr1 lo1 mc1 ms1 (.ref b :: As) G post1 xp1) (hln : Cond.methodLink own idx y ∈ AW) (d : decode cc pc = .ok (.invokevirtual idx, 3)) (hn : pc + 3 = n0)
    (hst : As.reverse ++ .ref b :: st = st0) (hlen : As.length = n) (hc : CL[ci]? = some (Cn, Tn, N)) (hy : y.cls = Cn) (h3 : (Nat.ble 3 ci && Nat.ble ci 15) = true) (hk : gK G b = ci) (hR : fr1 + 1 ≤ R.frames ∧ 8 + (nL1 + 11) + lo1 ≤ R.locals) (hw : (st.map fun v => v.category).sum ≤ 8) (hkc : kc' + mc1 ≤ kc ∧ ks' + ms1 ≤ ks)
    (kx : ∀ (nx : String) (G' : GT), xp1 nx G' → ∃ t : Nat, rkHd own c pc nx t ∧ ∀ q : Nat, XW E p l e R s m args below meth c nL mc ms Q G' kc' ks' t L [.ref q])
    (kk : ∀ (v : Option Value) (G' : GT), post1 v G' → XW E p l e R s m args below meth c nL mc ms Q G' kc' ks' n0 L (v.toList ++ st)) : XW E p l e R s m args below meth c nL mc ms Q G kc ks pc L st0 := by
  subst hn
  subst hst
  intro H locs cells slots ls h1 h2 h3' h4 h5
  simp only [Bool.and_eq_true] at h3
  have hh : 3 ≤ ci ∧ ci ≤ 15 := ⟨Nat.le_of_ble_eq_true h3.1, Nat.le_of_ble_eq_true h3.2⟩
  have hts := C.2.2.2.2.1
  have hST := C.2.2.2.2.2.2.1
  have hNW := C.2.2.2.2.2.2.2.2.2.2.2
  have hrc := w_recv C h1 hk hh hc
  have hf : cells + mc1 ≤ R.cells ∧ slots + ms1 ≤ R.slots := ⟨Nat.le_trans (by omega) C.2.2.2.2.2.2.2.2.1.1, Nat.le_trans (by omega) C.2.2.2.2.2.2.2.2.1.2⟩
  have hp : PreV s H Cn b (PC E (.ref b :: As) G) As := ⟨wd_blind, hrc, fun U hU hW => ⟨rfl, wd_of C h1 h2 hU hW⟩⟩
  have go : vx_Run p l e R s m args below meth c H locs cells slots mc1 ms1 (F0 m pc ls (As.reverse ++ .ref b :: st)) st (QC E post1 (Value.ref b :: As).toArray) (XC E xp1) (bA E) :=
    vx_runV (Ts := AW) ⟨C.1, C.2.1, C.2.2.1, C.2.2.2.1, hts⟩ hM ⟨w_callB C hV hR hln, hts _ hi, by rw [← hy]; exact hts _ hs⟩ hp rfl hlen h3'.1 rfl (lv_room hw) d hf
  intro T hT X
  rcases go T hT X with ⟨v, st₀, t, T', L9, h0, X', hL, e1, e2, ⟨⟨v', G', hv, hw9, hp9⟩, hz, hkk⟩, sx⟩ | ⟨q, st₀, t, T', L9, E9, ce, h0, X', hL, e1, e2, ⟨⟨G', hw9, hp9⟩, hz, hkk⟩, hce, hcv, hcl, sx⟩
  · cases hv
    rw [h0] at hz hkk
    have hS1 : va_S (bA E) s.heap T'.heap (locs ++ L9) := ⟨Nat.le_trans h2.1 (by rw [e1]; exact hz), fun q k1 k2 => by rw [e1, hkk q (Nat.lt_of_lt_of_le k1 h2.1) k2]; exact h2.2.1 q k1 k2, fun q hq => by
        rcases List.mem_append.mp hq with h | h
        · exact h2.2.2 q h
        · exact hL q h⟩
    obtain ⟨t2, a1, b1⟩ := kk v G' hp9 T'.heap (locs ++ L9) _ _ ls (by rw [e1]; exact hw9.2.2.2.1) hS1 h3' (by omega) (by omega) T' rfl X'
    exact ⟨t2, sx t2 a1, b1⟩
  · rw [h0] at hz hkk
    have hS1 : va_S (bA E) s.heap T'.heap (locs ++ L9) := ⟨Nat.le_trans h2.1 (by rw [e1]; exact hz), fun q k1 k2 => by rw [e1, hkk q (Nat.lt_of_lt_of_le k1 h2.1) k2]; exact h2.2.1 q k1 k2, fun q hq => by
        rcases List.mem_append.mp hq with h | h
        · exact h2.2.2 q h
        · exact hL q h⟩
    obtain ⟨tt, ⟨pre, x, suf, g1, g2, g3, g4, ⟨name, g5, g6⟩, g7⟩, kq⟩ := kx E9 G' hp9
    subst g7
    have kw := kq q T'.heap (locs ++ L9) (cells + mc1) (slots + ms1) ls (by rw [e1]; exact hw9.2.2.2.1) hS1 h3' (by omega) (by omega)
    obtain ⟨t2, a1, b1⟩ := vx_catch (own := own) (name := name) (E := E9) (ce := ce) (q := q) (pc := pc) (rest := st) C.2.2.2.1 pre x suf g1 (fun z hz9 => by
        obtain ⟨y1, nm, y2, y3⟩ := g2 z hz9
        exact Or.inr ⟨y1, nm, hts _ y2, hST.2.2.2.2.2.2.2.2.2 _ y3⟩) g3 g4 (hts _ g5) (va_Nw.use (nw_on g6) (hNW _ g6)) (H := T'.heap) (by rw [e1]; exact hce) hcv hcl kw T' rfl X'
    exact ⟨t2, sx.trans a1, b1⟩
end LAWX
/-- a method with handlers that returns -/
def MH (E : EV) (l : Launch) (y : MethodName) (cc : ByteArray) (nL : Nat) (ret : Option FieldType) (hh : List (Nat × Nat × Nat × Nat)) (fr lo mc ms : Nat) (av : List Value) (G : GT) (post : Option Value → GT → Prop) : Prop :=
  Met l y (.codeWith y cc nL ret hh :: AW) ({ frames := fr, cells := mc, slots := ms, locals := lo } : Room) (PC E av G) (QC E post) mc ms (bA E)
theorem mh_of {E : EV} {l : Launch} {y : MethodName} {cc : ByteArray} {nL : Nat} {ret : Option FieldType} {hh : List (Nat × Nat × Nat × Nat)} {fr lo mc ms : Nat} {av : List Value} {G : GT} {post : Option Value → GT → Prop} {own : String} {L : List (Option Value)}
    (hy : plainName y.cls = true) (ho : y.cls = own) (hs : (lg_sl av).length ≤ nL) (hc : ∀ v ∈ av, v.category = 1) (hL : av.map some ++ List.replicate (nL - av.length) none = L)
    (body : ∀ (p : Program) (e : Env) (s : State) (m : MethodId) (args : Array Value) (below : List Frame) (meth : Method) (c : Code), CX E p ({ frames := fr, cells := mc, slots := ms, locals := lo } : Room) s m args meth c cc nL own mc ms ret → c.exceptionTable.toList = tableOf hh →
      XW E p l e ({ frames := fr, cells := mc, slots := ms, locals := lo } : Room) s m args below meth c nL mc ms (MTQ E below args s mc ms post) G mc ms 0 L []) : MH E l y cc nL ret hh fr lo mc ms av G post := by
  unfold MH Met
  refine MetFree.of_bodyS (code := cc) (maxLocals := nL) (ret := ret) hy ?_ ?_
  · intro args s m h hn
    obtain ⟨m9, meth, c, hn9, h1, h2, h3, h4, -, h5, h6, -⟩ := Cond.codeWith_spec (atoms_spec (ws := .codeWith y cc nL ret hh :: AW) h _ List.mem_cons_self)
    cases hn.symm.trans hn9
    exact ⟨meth, c, h1, h2, h3, h4, h5, h6⟩
  · intro p e s m args below meth c s₁ B hml hP _
    have hh0 : s₁.heap = s.heap := by rw [B.state]; rfl
    obtain ⟨rfl, hK, hST, hsz, hp1, hNW⟩ := hP
    have hts := atoms_spec (ws := .codeWith y cc nL ret hh :: AW) B.pre
    have htab : c.exceptionTable.toList = tableOf hh := vx_table (x := y) B (hts _ List.mem_cons_self)
    have hown : s.vm.findClass own = some m.cls := by rw [← ho]; exact findClass_of_methodNamed B.named
    have C : CX E p ({ frames := fr, cells := mc, slots := ms, locals := lo } : Room) s m av.toArray meth c cc nL own mc ms ret := ⟨B.exec, B.bytes, hml, hown, fun w hw => hts w (List.mem_cons_of_mem _ hw), hK, hST, hsz, ⟨Nat.le_refl _, Nat.le_refl _⟩, B.returns, B.notSynchronized, hNW⟩
    have hl := lv_entry av (n := nL) hs
    have k := body p e s m av.toArray below meth c C htab s.heap [] 0 0 _ hp1 va_S.rf (XL.args hl hc L hL) (by omega) (by omega)
    rw [← lg_entry_eq] at k
    obtain ⟨t, a1, o, b1, b2, b3⟩ := k s₁ hh0 (Stand.of_body B)
    exact ⟨t, o, a1, b1, b2, b3⟩
section LAWC
variable {E : EV} {p : Program} {l : Launch} {e : Env} {R : Room} {s : State} {m : MethodId} {args : Array Value} {below : List Frame} {meth : Method} {c : Code} {cc : ByteArray} {nL mc ms : Nat} {own : String} {ret : Option FieldType} {Q : State → Prop} {G : GT} {kc ks pc : Nat} {L : List (Option Value)} {st st0 : List Value}
variable {y : MethodName} {cc1 : ByteArray} {nL1 : Nat} {ret1 : Option FieldType} {hh : List (Nat × Nat × Nat × Nat)} {fr1 lo1 mc1 ms1 idx : Nat} {As : List Value} {post : Option Value → GT → Prop}
theorem x_callSH (n0 kc' ks' : Nat) {n : Nat} (C : CX E p R s m args meth c cc nL own mc ms ret) (h1w : Cond.codeWith y cc1 nL1 ret1 hh ∈ AW) (h2w : Cond.initialized y.cls ∈ AW) (hi : Cond.static y ∈ AW) (hln : Cond.methodLink own idx y ∈ AW) (hdd : y.cls ≠ "java/lang/invoke/MethodHandle" ∧ y.cls ≠ "java/lang/invoke/VarHandle" ∧ (parseMethodDescriptor y.desc).map (fun d => d.parameters.length) = some n) (hM : MH E l y cc1 nL1 ret1 hh fr1 lo1 mc1 ms1 As G post) (d : decode cc pc = .ok (.invokestatic idx, 3)) (hn : pc + 3 = n0)
    (hst : As.reverse ++ st = st0) (hlen : As.length = n) (hR : fr1 + 1 ≤ R.frames ∧ 8 + (nL1 + 11) + lo1 ≤ R.locals) (hw : (st.map fun v => v.category).sum ≤ 8) (hkc : kc' + mc1 ≤ kc ∧ ks' + ms1 ≤ ks)
    (kk : ∀ (v : Option Value) (G' : GT), post v G' → XW E p l e R s m args below meth c nL mc ms Q G' kc' ks' n0 L (v.toList ++ st)) : XW E p l e R s m args below meth c nL mc ms Q G kc ks pc L st0 := by
  subst hn
  subst hst
  intro H locs cells slots ls h1 h2 h3' h4 h5
  have hts := C.2.2.2.2.1
  have hf : cells + mc1 ≤ R.cells ∧ slots + ms1 ≤ R.slots := ⟨Nat.le_trans (by omega) C.2.2.2.2.2.2.2.2.1.1, Nat.le_trans (by omega) C.2.2.2.2.2.2.2.2.1.2⟩
  have hp : PreS s H (PC E As G) As := ⟨wd_blind, fun U hU hW => ⟨rfl, wd_of C h1 h2 hU hW⟩⟩
  have cw : vx_CSW R s args own idx y cc1 nL1 ret1 hh (.codeWith y cc1 nL1 ret1 hh :: AW) ({ frames := fr1, cells := mc1, slots := ms1, locals := lo1 } : Room) mc1 ms1 n :=
    vx_cwSW n hts (fun w hw9 => by
      unfold va_wsS at hw9
      rcases List.mem_append.mp hw9 with z | z
      · simp at z
        rcases z with rfl | rfl | rfl
        · exact ⟨hln, aw_good hln⟩
        · exact ⟨hi, aw_good hi⟩
        · exact ⟨h2w, aw_good h2w⟩
      · exact aw_in h1w w z) rfl rfl rfl hdd hR
  have go : va_Run p l e R s m args below meth c H locs cells slots mc1 ms1 (F0 m pc ls (As.reverse ++ st)) st (QC E post As.toArray) (bA E) :=
    vx_runSW (Ts := AW) ⟨C.1, C.2.1, C.2.2.1, C.2.2.2.1, hts⟩ hM cw hp rfl hlen h3'.1 rfl (lv_room hw) d hf
  exact w_call go h2 C.2.2.2.2.2.2.2.1 (fun v G' H1 locs1 a1 a2 a3 => kk v G' a3 H1 locs1 _ _ ls a1 a2 h3' (by omega) (by omega))
end LAWC
