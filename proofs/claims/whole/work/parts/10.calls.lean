/-! entry, end, calls -/
section XC1
variable {E : EV} {p : Program} {l : Launch} {e : Env} {R : Room} {s : State} {m : MethodId} {args : Array Value} {below : List Frame} {meth : Method} {c : Code} {cc : ByteArray} {nL mc ms : Nat} {own : String} {ret : Option FieldType} {Q : State → Prop} {G : GT} {kc ks pc : Nat} {L : List (Option Value)} {st : List Value} {H : Heap} {locs : List Loc}
theorem wd_of (C : CX E p R s m args meth c cc nL own mc ms ret) (h1 : hp E G H) (h2 : va_S (bA E) s.heap H locs) {t : State} (ht : t.heap = H) (hW : s.WarmedH t.vm) : WD E G t := by
  obtain ⟨-, -, -, -, -, hK, hST, hsz, -, -, -, hNW⟩ := C
  refine ⟨hK.moved hW.alike, ?_, ?_, by rw [ht]; exact h1, nw_warm hW hNW⟩
  · rw [ht]
    exact (hST.moved hW).kept h2.2.1
  · rw [ht]
    exact Nat.le_trans hsz h2.1
theorem wd_blind {av : List Value} : FrameBlind (PC E av G) := fun a U g mk q => by
  obtain ⟨q1, q2, q3, q4, q5, q6⟩ := q
  exact ⟨q1, va_K.moved (u := U) (U := U.calling g mk a) (Vm.Alike.refl U.vm) q2, ST.same (u := U) (U := U.calling g mk a) rfl q3, q4, q5, nw_same (u := U) (U := U.calling g mk a) rfl q6⟩
/-- a return of a number -/
theorem x_iret {post : Option Value → GT → Prop} {v : Int} {ty : FieldType} (C : CX E p R s m args meth c cc nL own mc ms (some ty)) (d : decode cc pc = .ok (.ireturn, 1)) (hn : narrow ty (.int (i32 v)) = .int (i32 v)) (hq : post (some (.int (i32 v))) G) :
    XW E p l e R s m args below meth c nL mc ms (MTQ E below args s mc ms post) G kc ks pc L [.int (i32 v)] := by
  intro H locs cells slots ls h1 h2 h3 h4 h5
  refine W.widen (k := mc) (n := ms) (by omega) (by omega) ?_
  exact W.zret C.1 C.2.1 C.2.2.2.2.2.2.2.2.2.1 hn (fun t ht hW => ⟨⟨_, G, rfl, wd_of C h1 h2 ht hW, hq⟩, h2.F ht⟩) h2.2.2 d C.2.2.2.2.2.2.2.2.2.2.1
theorem x_ret {post : Option Value → GT → Prop} (C : CX E p R s m args meth c cc nL own mc ms none) (d : decode cc pc = .ok (.return_, 1)) (hq : post none G) :
    XW E p l e R s m args below meth c nL mc ms (MTQ E below args s mc ms post) G kc ks pc L [] := by
  intro H locs cells slots ls h1 h2 h3 h4 h5
  refine W.widen (k := mc) (n := ms) (by omega) (by omega) ?_
  exact W.vret C.1 C.2.1 C.2.2.2.2.2.2.2.2.2.1 (fun t ht hW => ⟨⟨_, G, rfl, wd_of C h1 h2 ht hW, hq⟩, h2.F ht⟩) h2.2.2 d C.2.2.2.2.2.2.2.2.2.2.1
theorem x_aret {post : Option Value → GT → Prop} {r : Option Nat} {ty : FieldType} (C : CX E p R s m args meth c cc nL own mc ms (some ty)) (d : decode cc pc = .ok (.areturn, 1)) (hn : tyk ty = 2) (hq : post (some (va_rf r)) G) :
    XW E p l e R s m args below meth c nL mc ms (MTQ E below args s mc ms post) G kc ks pc L [va_rf r] := by
  intro H locs cells slots ls h1 h2 h3 h4 h5
  refine W.widen (k := mc) (n := ms) (by omega) (by omega) ?_
  refine W.aret C.1 C.2.1 C.2.2.2.2.2.2.2.2.2.1 ?_ ?_ (fun t ht hW => ⟨⟨_, G, rfl, wd_of C h1 h2 ht hW, hq⟩, h2.F ht⟩) h2.2.2 d C.2.2.2.2.2.2.2.2.2.2.1
  · cases ty <;> simp [tyk] at hn
    · exact Or.inl ⟨_, rfl⟩
    · exact Or.inr ⟨_, rfl⟩
  · cases r
    · exact Or.inl rfl
    · exact Or.inr ⟨_, rfl⟩
/-- the same ends of a method that may throw -/
theorem x_through {post : Option Value → GT → Prop} {xp : String → GT → Prop} (k : XW E p l e R s m args below meth c nL mc ms (MTQ E below args s mc ms post) G kc ks pc L st) : XW E p l e R s m args below meth c nL mc ms (MXQ E below args s mc ms post xp) G kc ks pc L st :=
  fun H locs cells slots ls h1 h2 h3 h4 h5 => vx_ret (k H locs cells slots ls h1 h2 h3 h4 h5)
end XC1
/-- a method from its body -/
theorem mt_of {E : EV} {l : Launch} {y : MethodName} {cc : ByteArray} {nL : Nat} {ret : Option FieldType} {fr lo mc ms : Nat} {av : List Value} {G : GT} {post : Option Value → GT → Prop} {own : String} {L : List (Option Value)}
    (hy : plainName y.cls = true) (ho : y.cls = own) (hs : (lg_sl av).length ≤ nL) (hc : ∀ v ∈ av, v.category = 1) (hL : av.map some ++ List.replicate (nL - av.length) none = L)
    (body : ∀ (p : Program) (e : Env) (s : State) (m : MethodId) (args : Array Value) (below : List Frame) (meth : Method) (c : Code), CX E p ({ frames := fr, cells := mc, slots := ms, locals := lo } : Room) s m args meth c cc nL own mc ms ret → meth.name = y.name →
      XW E p l e ({ frames := fr, cells := mc, slots := ms, locals := lo } : Room) s m args below meth c nL mc ms (MTQ E below args s mc ms post) G mc ms 0 L []) : MT E l y cc nL ret fr lo mc ms av G post := by
  refine Met.ofW (cc := cc) (maxL := nL) (ret := ret) hy rfl ?_
  intro p e s m args below meth c s₁ B hml hv
  obtain ⟨rfl, hK, hST, hsz, hp1, hNW⟩ := hv
  have hts := atoms_spec (ws := wsm y cc nL ret) B.pre
  have hown : s.vm.findClass own = some m.cls := by rw [← ho]; exact findClass_of_methodNamed B.named
  have hin : meth.name = y.name := (name_of_methodNamed B.named B.method).1
  have C : CX E p ({ frames := fr, cells := mc, slots := ms, locals := lo } : Room) s m av.toArray meth c cc nL own mc ms ret := ⟨B.exec, B.bytes, hml, hown, fun w hw => hts w (List.mem_cons_of_mem _ hw), hK, hST, hsz, ⟨Nat.le_refl _, Nat.le_refl _⟩, B.returns, B.notSynchronized, hNW⟩
  have hl := lv_entry av (n := nL) hs
  rw [lg_entry_eq]
  exact body p e s m av.toArray below meth c C hin s.heap [] 0 0 _ hp1 va_S.rf (XL.args hl hc L hL) (by omega) (by omega)
theorem mx_of {E : EV} {l : Launch} {y : MethodName} {cc : ByteArray} {nL : Nat} {ret : Option FieldType} {fr lo mc ms : Nat} {av : List Value} {G : GT} {post : Option Value → GT → Prop} {xp : String → GT → Prop} {own : String} {L : List (Option Value)}
    (hy : plainName y.cls = true) (ho : y.cls = own) (hs : (lg_sl av).length ≤ nL) (hc : ∀ v ∈ av, v.category = 1) (hL : av.map some ++ List.replicate (nL - av.length) none = L)
    (body : ∀ (p : Program) (e : Env) (s : State) (m : MethodId) (args : Array Value) (below : List Frame) (meth : Method) (c : Code), CX E p ({ frames := fr, cells := mc, slots := ms, locals := lo } : Room) s m args meth c cc nL own mc ms ret → meth.name = y.name → (∀ x ∈ c.exceptionTable.toList, False) →
      XW E p l e ({ frames := fr, cells := mc, slots := ms, locals := lo } : Room) s m args below meth c nL mc ms (MXQ E below args s mc ms post xp) G mc ms 0 L []) : MX E l y cc nL ret fr lo mc ms av G post xp := by
  refine vx_ofW (cc := cc) (maxL := nL) (ret := ret) hy rfl ?_
  intro p e s m args below meth c s₁ B hml htab hv
  obtain ⟨rfl, hK, hST, hsz, hp1, hNW⟩ := hv
  have hts := atoms_spec (ws := wsm y cc nL ret) B.pre
  have hown : s.vm.findClass own = some m.cls := by rw [← ho]; exact findClass_of_methodNamed B.named
  have hin : meth.name = y.name := (name_of_methodNamed B.named B.method).1
  have C : CX E p ({ frames := fr, cells := mc, slots := ms, locals := lo } : Room) s m av.toArray meth c cc nL own mc ms ret := ⟨B.exec, B.bytes, hml, hown, fun w hw => hts w (List.mem_cons_of_mem _ hw), hK, hST, hsz, ⟨Nat.le_refl _, Nat.le_refl _⟩, B.returns, B.notSynchronized, hNW⟩
  have hl := lv_entry av (n := nL) hs
  rw [lg_entry_eq]
  exact body p e s m av.toArray below meth c C hin htab s.heap [] 0 0 _ hp1 va_S.rf (XL.args hl hc L hL) (by omega) (by omega)

/-! calls: what a call needs of the tables, in one word -/
def VW (own : String) (idx : Nat) (y : MethodName) (cc : ByteArray) (nL : Nat) (ret : Option FieldType) (n : Nat) : Prop :=
  (Cond.code y cc nL ret ∈ AW ∧ Cond.initialized y.cls ∈ AW ∧ y.cls ≠ "java/lang/invoke/MethodHandle" ∧ y.cls ≠ "java/lang/invoke/VarHandle" ∧ (parseMethodDescriptor y.desc).map (fun d => d.parameters.length) = some n) ∧
  ((Cond.methodLink own idx y ∈ AW) ∨ ∃ host : String, Cond.methodLinkNest own idx y host ∈ NW)
section XC2
variable {E : EV} {p : Program} {l : Launch} {e : Env} {R : Room} {s : State} {m : MethodId} {args : Array Value} {below : List Frame} {meth : Method} {c : Code} {cc : ByteArray} {nL mc ms : Nat} {own : String} {ret : Option FieldType} {Q : State → Prop} {G : GT} {kc ks pc : Nat} {L : List (Option Value)} {st st0 : List Value} {H : Heap} {locs : List Loc} {cells slots : Nat} {ls : Array Slot}
variable {y : MethodName} {cc1 : ByteArray} {nL1 : Nat} {ret1 : Option FieldType} {fr1 lo1 mc1 ms1 idx b : Nat} {As : List Value} {post : Option Value → GT → Prop} {xp : String → GT → Prop} {a : Array Value}
theorem w_call (hr : va_Run p l e R s m args below meth c H locs cells slots mc1 ms1 (F0 m pc ls st0) st (QC E post a) (bA E)) (hS : va_S (bA E) s.heap H locs) (hb : E.2.2.1 ≤ s.heap.size)
    (kk : ∀ (v : Option Value) (G' : GT) (H1 : Heap) (locs1 : List Loc), hp E G' H1 → va_S (bA E) s.heap H1 locs1 → post v G' → W p l e R s m args below meth c H1 locs1 (cells + mc1) (slots + ms1) Q (F0 m (pc + 3) ls (v.toList ++ st))) : W p l e R s m args below meth c H locs cells slots Q (F0 m pc ls st0) := by
  intro T hT X
  obtain ⟨v, st₀, t, T', L, h0, X', hL, e1, e2, ⟨⟨v', G', hv, hw, hp⟩, hz, hk⟩, st⟩ := hr T hT X
  cases hv
  rw [h0] at hz hk
  have hS1 : va_S (bA E) s.heap T'.heap (locs ++ L) := ⟨Nat.le_trans hS.1 (by rw [e1]; exact hz), fun q h1 h2 => by rw [e1, hk q (Nat.lt_of_lt_of_le h1 hS.1) h2]; exact hS.2.1 q h1 h2, fun q hq => by
      rcases List.mem_append.mp hq with h | h
      · exact hS.2.2 q h
      · exact hL q h⟩
  obtain ⟨t2, a1, b1⟩ := kk v G' T'.heap (locs ++ L) (by rw [e1]; exact hw.2.2.2.1) hS1 hp T' rfl X'
  exact ⟨t2, st t2 a1, b1⟩
theorem w_recv {ci : Nat} {Cn : String} {Tn : u_T} {N : Nat} (C : CX E p R s m args meth c cc nL own mc ms ret) (h1 : hp E G H) (hk : gK G b = ci) (h3 : 3 ≤ ci ∧ ci ≤ 15) (hc : CL[ci]? = some (Cn, Tn, N)) : ∃ cell : Cell, H[b]? = some cell ∧ cell.vm.isStatics = false ∧ s.vm.findClass Cn = some cell.cls := by
  have : ∃ fs, va_at E.1 CL (b, .inr (ci, fs)) H := by
    by_cases h15 : ci = 15
    · subst h15
      exact ⟨_, (h1.get (ent_model hk)).1⟩
    · exact ⟨_, (h1.get (ent_obj hk (by omega))).1⟩
  obtain ⟨fs, hv⟩ := this
  exact va_recv (ws := [(b, .inr (ci, fs))]) C.2.2.2.2.2.1 (fun k q hq => by
    cases k with
    | zero => cases hq; exact hv
    | succ k => simp at hq) (q0 := 0) hc rfl
theorem w_callB {n : Nat} (C : CX E p R s m args meth c cc nL own mc ms ret) (hV : VW own idx y cc1 nL1 ret1 n) (hR : fr1 + 1 ≤ R.frames ∧ 8 + (nL1 + 11) + lo1 ≤ R.locals) (hl : Cond.methodLink own idx y ∈ AW) :
    CallB R s args own idx y cc1 nL1 ret1 (wsm y cc1 nL1 ret1) ({ frames := fr1, cells := mc1, slots := ms1, locals := lo1 } : Room) mc1 ms1 n := by
  obtain ⟨⟨v1, v2, v3, v4, v5⟩, -⟩ := hV
  have hts := C.2.2.2.2.1
  exact callB_of n hts (aw_in v1) rfl rfl rfl (hts _ v2) (hts _ hl) ⟨v3, v4, v5⟩ hR
theorem w_callN {n : Nat} {host : String} (C : CX E p R s m args meth c cc nL own mc ms ret) (hV : VW own idx y cc1 nL1 ret1 n) (hR : fr1 + 1 ≤ R.frames ∧ 8 + (nL1 + 11) + lo1 ≤ R.locals) (hl : Cond.methodLinkNest own idx y host ∈ NW) :
    va_CN R s args own idx y host cc1 nL1 ret1 (wsm y cc1 nL1 ret1) ({ frames := fr1, cells := mc1, slots := ms1, locals := lo1 } : Room) mc1 ms1 n := by
  obtain ⟨⟨v1, v2, v3, v4, v5⟩, -⟩ := hV
  have hts := C.2.2.2.2.1
  exact va_cnB n hts (aw_in v1) rfl rfl rfl (C.2.2.2.2.2.2.2.2.2.2.2 _ hl) (hts _ v2) ⟨v3, v4, v5⟩ hR
/-- invokevirtual of a method of the receiver's own class -/
theorem x_callV (n0 ci kc' ks' : Nat) {n : Nat} {Cn : String} {Tn : u_T} {N : Nat} (C : CX E p R s m args meth c cc nL own mc ms ret) (hV : VW own idx y cc1 nL1 ret1 n) (hi : Cond.instanceMethod y ∈ AW) (hs : Cond.selects y.cls y y ∈ AW) (hM : MT E l y cc1 nL1 ret1 fr1 lo1 mc1 ms1 (.ref b :: As) G post) (d : decode cc pc = .ok (.invokevirtual idx, 3)) (hn : pc + 3 = n0)
    (hst : As.reverse ++ .ref b :: st = st0) (hlen : As.length = n) (hc : CL[ci]? = some (Cn, Tn, N)) (hy : y.cls = Cn) (h3 : (Nat.ble 3 ci && Nat.ble ci 15) = true) (hk : gK G b = ci) (hR : fr1 + 1 ≤ R.frames ∧ 8 + (nL1 + 11) + lo1 ≤ R.locals) (hw : (st.map fun v => v.category).sum ≤ 8) (hkc : kc' + mc1 ≤ kc ∧ ks' + ms1 ≤ ks)
    (kk : ∀ (v : Option Value) (G' : GT), post v G' → XW E p l e R s m args below meth c nL mc ms Q G' kc' ks' n0 L (v.toList ++ st)) : XW E p l e R s m args below meth c nL mc ms Q G kc ks pc L st0 := by
  subst hn
  subst hst
  intro H locs cells slots ls h1 h2 h3' h4 h5
  simp only [Bool.and_eq_true] at h3
  have hh : 3 ≤ ci ∧ ci ≤ 15 := ⟨Nat.le_of_ble_eq_true h3.1, Nat.le_of_ble_eq_true h3.2⟩
  have hts := C.2.2.2.2.1
  have hrc := w_recv C h1 hk hh hc
  have hf : cells + mc1 ≤ R.cells ∧ slots + ms1 ≤ R.slots := ⟨Nat.le_trans (by omega) C.2.2.2.2.2.2.2.2.1.1, Nat.le_trans (by omega) C.2.2.2.2.2.2.2.2.1.2⟩
  have hp : PreV s H Cn b (PC E (.ref b :: As) G) As := ⟨wd_blind, hrc, fun U hU hW => ⟨rfl, wd_of C h1 h2 hU hW⟩⟩
  have go : va_Run p l e R s m args below meth c H locs cells slots mc1 ms1 (F0 m pc ls (As.reverse ++ .ref b :: st)) st (QC E post (Value.ref b :: As).toArray) (bA E) := by
    rcases id hV.2 with hl | ⟨host, hl⟩
    · exact va_runV (Ts := AW) ⟨C.1, C.2.1, C.2.2.1, C.2.2.2.1, hts⟩ hM ⟨w_callB C hV hR hl, hts _ hi, by rw [← hy]; exact hts _ hs⟩ hp rfl hlen h3'.1 rfl (lv_room hw) d hf
    · exact va_runVN (Ts := AW) ⟨C.1, C.2.1, C.2.2.1, C.2.2.2.1, hts⟩ hM ⟨w_callN C hV hR hl, hts _ hi, by rw [← hy]; exact hts _ hs⟩ hp rfl hlen h3'.1 rfl (lv_room hw) d hf
  exact w_call go h2 C.2.2.2.2.2.2.2.1 (fun v G' H1 locs1 a1 a2 a3 => kk v G' a3 H1 locs1 _ _ ls a1 a2 h3' (by omega) (by omega))
/-- invokestatic -/
theorem x_callS (n0 kc' ks' : Nat) {n : Nat} (C : CX E p R s m args meth c cc nL own mc ms ret) (hV : VW own idx y cc1 nL1 ret1 n) (hi : Cond.static y ∈ AW) (hM : MT E l y cc1 nL1 ret1 fr1 lo1 mc1 ms1 As G post) (d : decode cc pc = .ok (.invokestatic idx, 3)) (hn : pc + 3 = n0)
    (hst : As.reverse ++ st = st0) (hlen : As.length = n) (hR : fr1 + 1 ≤ R.frames ∧ 8 + (nL1 + 11) + lo1 ≤ R.locals) (hw : (st.map fun v => v.category).sum ≤ 8) (hkc : kc' + mc1 ≤ kc ∧ ks' + ms1 ≤ ks)
    (kk : ∀ (v : Option Value) (G' : GT), post v G' → XW E p l e R s m args below meth c nL mc ms Q G' kc' ks' n0 L (v.toList ++ st)) : XW E p l e R s m args below meth c nL mc ms Q G kc ks pc L st0 := by
  subst hn
  subst hst
  intro H locs cells slots ls h1 h2 h3' h4 h5
  have hts := C.2.2.2.2.1
  have hf : cells + mc1 ≤ R.cells ∧ slots + ms1 ≤ R.slots := ⟨Nat.le_trans (by omega) C.2.2.2.2.2.2.2.2.1.1, Nat.le_trans (by omega) C.2.2.2.2.2.2.2.2.1.2⟩
  have hp : PreS s H (PC E As G) As := ⟨wd_blind, fun U hU hW => ⟨rfl, wd_of C h1 h2 hU hW⟩⟩
  have go : va_Run p l e R s m args below meth c H locs cells slots mc1 ms1 (F0 m pc ls (As.reverse ++ st)) st (QC E post As.toArray) (bA E) := by
    rcases id hV.2 with hl | ⟨host, hl⟩
    · exact va_runS (Ts := AW) ⟨C.1, C.2.1, C.2.2.1, C.2.2.2.1, hts⟩ hM ⟨w_callB C hV hR hl, hts _ hi⟩ hp rfl hlen h3'.1 rfl (lv_room hw) d hf
    · exact va_runSN (Ts := AW) ⟨C.1, C.2.1, C.2.2.1, C.2.2.2.1, hts⟩ hM ⟨w_callN C hV hR hl, hts _ hi, trivial⟩ hp rfl hlen h3'.1 rfl (lv_room hw) d hf
  exact w_call go h2 C.2.2.2.2.2.2.2.1 (fun v G' H1 locs1 a1 a2 a3 => kk v G' a3 H1 locs1 _ _ ls a1 a2 h3' (by omega) (by omega))
/-- a constructor -/
theorem x_callI (n0 kc' ks' : Nat) {n : Nat} (C : CX E p R s m args meth c cc nL own mc ms ret) (hV : VW own idx y cc1 nL1 none n) (hi : Cond.instanceMethod y ∈ AW) (hy : y.name = "<init>") (hM : MT E l y cc1 nL1 none fr1 lo1 mc1 ms1 (.ref b :: As) G post) (d : decode cc pc = .ok (.invokespecial idx, 3)) (hn : pc + 3 = n0)
    (hst : As.reverse ++ .ref b :: st = st0) (hlen : As.length = n) (hR : fr1 + 1 ≤ R.frames ∧ 8 + (nL1 + 11) + lo1 ≤ R.locals) (hw : (st.map fun v => v.category).sum ≤ 8) (hkc : kc' + mc1 ≤ kc ∧ ks' + ms1 ≤ ks)
    (kk : ∀ (v : Option Value) (G' : GT), post v G' → XW E p l e R s m args below meth c nL mc ms Q G' kc' ks' n0 L (v.toList ++ st)) : XW E p l e R s m args below meth c nL mc ms Q G kc ks pc L st0 := by
  subst hn
  subst hst
  intro H locs cells slots ls h1 h2 h3' h4 h5
  have hts := C.2.2.2.2.1
  have hf : cells + mc1 ≤ R.cells ∧ slots + ms1 ≤ R.slots := ⟨Nat.le_trans (by omega) C.2.2.2.2.2.2.2.2.1.1, Nat.le_trans (by omega) C.2.2.2.2.2.2.2.2.1.2⟩
  have hp : PreS s H (PC E (.ref b :: As) G) (.ref b :: As) := ⟨wd_blind, fun U hU hW => ⟨rfl, wd_of C h1 h2 hU hW⟩⟩
  have go : va_Run p l e R s m args below meth c H locs cells slots mc1 ms1 (F0 m pc ls (As.reverse ++ .ref b :: st)) st (QC E post (Value.ref b :: As).toArray) (bA E) := by
    rcases id hV.2 with hl | ⟨host, hl⟩
    · exact va_runI (Ts := AW) ⟨C.1, C.2.1, C.2.2.1, C.2.2.2.1, hts⟩ hM ⟨w_callB C hV hR hl, hy, hts _ hi⟩ hp rfl hlen h3'.1 rfl (lv_room hw) d hf
    · exact va_runIN (Ts := AW) ⟨C.1, C.2.1, C.2.2.1, C.2.2.2.1, hts⟩ hM ⟨w_callN C hV hR hl, hy, hts _ hi⟩ hp rfl hlen h3'.1 rfl (lv_room hw) d hf
  exact w_call go h2 C.2.2.2.2.2.2.2.1 (fun v G' H1 locs1 a1 a2 a3 => kk v G' a3 H1 locs1 _ _ ls a1 a2 h3' (by omega) (by omega))
end XC2
