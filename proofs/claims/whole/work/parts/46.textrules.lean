/-! rows for the JDK's texts: calls by way of the class above, the two constant texts, new objects, digits -/
def UW (own : String) (idx : Nat) (Cr : String) (y : MethodName) (cc : ByteArray) (nL : Nat) (ret : Option FieldType) (n : Nat) : Prop :=
  (Cond.code y cc nL ret ∈ AW ∧ Cond.initialized y.cls ∈ AW ∧ Cond.methodLink own idx y ∈ AW ∧ Cond.sameMethod y.cls y.cls y.name y.desc ∈ AW ∧ Cond.instanceMethod y ∈ AW) ∧ Cond.selects Cr y y ∈ AW ∧ y.cls ≠ "java/lang/invoke/MethodHandle" ∧ y.cls ≠ "java/lang/invoke/VarHandle" ∧ (parseMethodDescriptor y.desc).map (fun d => d.parameters.length) = some n
def SW (own : String) (idx : Nat) (y : MethodName) (cc : ByteArray) (nL : Nat) (ret : Option FieldType) (n : Nat) : Prop :=
  (Cond.code y cc nL ret ∈ AW ∧ Cond.initialized y.cls ∈ AW ∧ Cond.methodLink own idx y ∈ AW ∧ Cond.sameMethod y.cls y.cls y.name y.desc ∈ AW ∧ Cond.instanceMethod y ∈ AW) ∧ Cond.superclass own y.cls ∈ AW ∧ y.name ≠ "<init>" ∧ (parseMethodDescriptor y.desc).map (fun d => d.parameters.length) = some n
theorem good_five {a b c d e : Cond} {ws : List Cond} (ha : a ∈ AW) (hb : b ∈ AW) (hc : c ∈ AW) (hd : d ∈ AW) (he : e ∈ AW) (hw : GoodIn AW ws) : GoodIn AW ([a, b, c, d, e] ++ ws) := fun w h => by
  rcases List.mem_append.mp h with h | h
  · simp only [List.mem_cons, List.not_mem_nil, or_false] at h
    rcases h with rfl | rfl | rfl | rfl | rfl
    · exact ⟨ha, aw_good ha⟩
    · exact ⟨hb, aw_good hb⟩
    · exact ⟨hc, aw_good hc⟩
    · exact ⟨hd, aw_good hd⟩
    · exact ⟨he, aw_good he⟩
  · exact hw w h
theorem good_six {a b c d e f : Cond} {ws : List Cond} (ha : a ∈ AW) (hb : b ∈ AW) (hc : c ∈ AW) (hd : d ∈ AW) (he : e ∈ AW) (hf : f ∈ AW) (hw : GoodIn AW ws) : GoodIn AW ([a, b, c, d, e, f] ++ ws) := fun w h => by
  rcases List.mem_append.mp h with h | h
  · simp only [List.mem_cons, List.not_mem_nil, or_false] at h
    rcases h with rfl | rfl | rfl | rfl | rfl | rfl
    · exact ⟨ha, aw_good ha⟩
    · exact ⟨hb, aw_good hb⟩
    · exact ⟨hc, aw_good hc⟩
    · exact ⟨hd, aw_good hd⟩
    · exact ⟨he, aw_good he⟩
    · exact ⟨hf, aw_good hf⟩
  · exact hw w h
/-- a field of bytes takes 0 -/
theorem fits_b0 {ci j : Nat} {Cn : String} {Tn : u_T} {N : Nat} (hc : CL[ci]? = some (Cn, Tn, N)) (hB : (Tn j).2.2.1 = "B") : ∀ (r : vw_C) (ty : FieldType), CL[ci]? = some r → parseFieldDescriptor (r.2.1 j).2.2.1 = some ty → narrow ty (.int (i32 0)) = .int (i32 0) ∧ fits ty (.int (i32 0)) = true := by
  intro r ty h1 h2
  rw [hc] at h1
  cases h1
  rw [show ((Cn, Tn, N) : vw_C).2.1 = Tn from rfl, hB, show parseFieldDescriptor "B" = some .byte by decide +kernel] at h2
  cases h2
  exact ⟨rfl, rfl⟩
section XFB
variable {E : EV} {p : Program} {l : Launch} {e : Env} {R : Room} {s : State} {m : MethodId} {args : Array Value} {below : List Frame} {meth : Method} {c : Code} {cc : ByteArray} {nL mc ms : Nat} {own : String} {ret : Option FieldType} {Q : State → Prop} {G : GT} {kc ks pc : Nat} {L : List (Option Value)} {st : List Value} {H : Heap} {locs : List Loc} {cells slots : Nat} {ls : Array Slot}
theorem w_putfB {idx ci j a tk : Nat} {fs : List Value} {v : Value} (C : CX E p R s m args meth c cc nL own mc ms ret) (F : FW own idx ci j tk false) (hv : va_at E.1 CL (a, .inr (ci, fs)) H) (hl : j < fs.length) (hfit : ∀ (r : vw_C) (ty : FieldType), CL[ci]? = some r → parseFieldDescriptor (r.2.1 j).2.2.1 = some ty → narrow ty v = v ∧ fits ty v = true) (d : decode cc pc = .ok (.putfield idx, 3))
    (kk : ∀ (H1 : Heap) (sl : Nat), va_at E.1 CL (a, .inr (ci, fs.set j v)) H1 → H1.size = H.size → (∀ q : Nat, q ≠ a → H1[q]? = H[q]?) → W p l e R s m args below meth c H1 (locs ++ [⟨a, sl⟩]) cells slots Q (F0 m (pc + 3) ls st)) : W p l e R s m args below meth c H locs cells slots Q (F0 m pc ls (v :: .ref a :: st)) := by
  obtain ⟨hx, hb, hml, hown, hts, hK, -, -, -, -, -, hNW⟩ := C
  obtain ⟨Cn, Tn, N, ty, hc, hin, hjN, -, hty, hnm, htk, hfin, -, hlk⟩ := F
  have hap := va_apart (own := own) hts hin ty hty hnm hK hc
  obtain ⟨r, h1, cell, q1, q2, q3, q4⟩ := hv
  have hr : r = (Cn, Tn, N) := Option.some.inj (h1.symm.trans hc)
  subst hr
  obtain ⟨hS, hfc, kC, hkC, hkind⟩ := hK.1 ci _ hc
  obtain ⟨cf, kf, fi, f, hi, hsl⟩ := hS j hjN
  have hlay := hts _ (hin _ (u_in_lay hjN))
  unfold u_lay at hlay
  rw [if_neg (by rw [hfin]; decide)] at hlay
  have hst := (u_facts hfc hkC (u_lays hts hin hjN) hi).1
  obtain ⟨f1, f2⟩ := hfit _ _ hc (hty j hjN)
  have h6 := u_store hfc hkC hkind hlay hi (hty j hjN) f1 f2
  have fin : ∀ H' : Heap, H'[a]? = some (cell.setSlot f.slot v) → H'.size = H.size → (∀ q, q ≠ a → H'[q]? = H[q]?) → W p l e R s m args below meth c H' (locs ++ [⟨a, f.slot⟩]) cells slots Q (F0 m (pc + 3) ls st) := by
    intro H' e1 e2 e3
    rw [hsl] at e1
    exact kk H' _ ⟨_, hc, t_OB.to (V := updV (vp_V fs) j v) ⟨_, e1, q2, q3, t_set q4 hap hjN v⟩ (fun j' _ => vp_updV_set hl v j')⟩ e2 e3
  rcases hlk with hlk | ⟨-, host, hlk⟩
  · exact W.putK hx hb (f := f) ⟨hown, hts _ hlk, ⟨_, _, _, hi⟩, hst⟩ (by rw [q2]; exact h6) q1 q3 (by rw [hsl]; exact k2_hasslot (q4 j hjN)) rfl rfl d fin
  · exact va_WputK hx hb (f := f) hown (va_Nw.use rfl (hNW _ hlk)) hi hst (by rw [q2]; exact h6) q1 q3 (by rw [hsl]; exact k2_hasslot (q4 j hjN)) rfl rfl d fin
theorem w_putFB {idx ci j a tk : Nat} {fs : List Value} {v : Value} (C : CX E p R s m args meth c cc nL own mc ms ret) (F : FW own idx ci j tk true) (hin2 : meth.name = "<init>") (hv : va_at E.1 CL (a, .inr (ci, fs)) H) (hl : j < fs.length) (hfit : ∀ (r : vw_C) (ty : FieldType), CL[ci]? = some r → parseFieldDescriptor (r.2.1 j).2.2.1 = some ty → narrow ty v = v ∧ fits ty v = true) (d : decode cc pc = .ok (.putfield idx, 3))
    (kk : ∀ (H1 : Heap) (sl : Nat), va_at E.1 CL (a, .inr (ci, fs.set j v)) H1 → H1.size = H.size → (∀ q : Nat, q ≠ a → H1[q]? = H[q]?) → W p l e R s m args below meth c H1 (locs ++ [⟨a, sl⟩]) cells slots Q (F0 m (pc + 3) ls st)) : W p l e R s m args below meth c H locs cells slots Q (F0 m pc ls (v :: .ref a :: st)) := by
  obtain ⟨hx, hb, hml, hown, hts, hK, -, -, -, -, -, hNW⟩ := C
  obtain ⟨Cn, Tn, N, ty, hc, hin, hjN, -, hty, hnm, htk, hfin, hdecl, hlk⟩ := F
  have hdecl := hdecl rfl
  have hap := va_apart (own := own) hts hin ty hty hnm hK hc
  obtain ⟨r, h1, cell, q1, q2, q3, q4⟩ := hv
  have hr : r = (Cn, Tn, N) := Option.some.inj (h1.symm.trans hc)
  subst hr
  obtain ⟨hS, hfc, kC, hkC, hkind⟩ := hK.1 ci _ hc
  obtain ⟨cf, kf, fi, f, hi, hsl⟩ := hS j hjN
  have hlay := hts _ (hin _ (u_in_lay hjN))
  unfold u_lay at hlay
  rw [if_pos hfin] at hlay
  have hst := (u_facts hfc hkC (u_lays hts hin hjN) hi).1
  have hcf : m.cls = cf := by
    obtain ⟨_, _, c', _, _, _, -, -, hf', -, -, -, hown2, -⟩ := Cond.laysFinal_spec hlay
    have e1 : c' = cf := by have := hi.symm.trans hf'; simp at this; exact this.1.symm
    rw [hdecl] at hown2
    rw [← e1]; exact Option.some.inj (hown.symm.trans hown2)
  obtain ⟨f1, f2⟩ := hfit _ _ hc (hty j hjN)
  have h6 := u_fits hfc hkC hkind (Or.inr hlay) hi (hty j hjN) f1 f2
  have fin : ∀ H' : Heap, H'[a]? = some (cell.setSlot f.slot v) → H'.size = H.size → (∀ q, q ≠ a → H'[q]? = H[q]?) → W p l e R s m args below meth c H' (locs ++ [⟨a, f.slot⟩]) cells slots Q (F0 m (pc + 3) ls st) := by
    intro H' e1 e2 e3
    rw [hsl] at e1
    exact kk H' _ ⟨_, hc, t_OB.to (V := updV (vp_V fs) j v) ⟨_, e1, q2, q3, t_set q4 hap hjN v⟩ (fun j' _ => vp_updV_set hl v j')⟩ e2 e3
  rcases hlk with hlk | ⟨h0, -⟩
  · exact W.putFinK hx hb hown (hts _ hlk) hi hst hcf hin2 (by rw [q2]; exact h6) q1 q3 (by rw [hsl]; exact k2_hasslot (q4 j hjN)) rfl rfl d fin
  · cases h0
end XFB
section YFB
variable {E : EV} {p : Program} {l : Launch} {e : Env} {R : Room} {s : State} {m : MethodId} {args : Array Value} {below : List Frame} {meth : Method} {c : Code} {cc : ByteArray} {nL mc ms : Nat} {own : String} {ret : Option FieldType} {Q : State → Prop} {G G' : FT} {kc ks pc : Nat} {L : List (Option Value)} {st : List Value}
theorem y_putfB (n tk : Nat) {ci j idx a : Nat} {fs : List Value} {v : Value} (C : CX E p R s m args meth c cc nL own mc ms ret) (F : FW own idx ci j tk false) (hg : G a = some (.inr (ci, fs))) (hl : j < fs.length) (hfit : ∀ (r : vw_C) (ty : FieldType), CL[ci]? = some r → parseFieldDescriptor (r.2.1 j).2.2.1 = some ty → narrow ty v = v ∧ fits ty v = true) (d : decode cc pc = .ok (.putfield idx, 3)) (hn : pc + 3 = n) (hG : va_up G a (some (.inr (ci, fs.set j v))) = G')
    (k : YW E p l e R s m args below meth c nL mc ms Q G' kc ks n L st) : YW E p l e R s m args below meth c nL mc ms Q G kc ks pc L (v :: .ref a :: st) := by
  subst hn
  subst hG
  intro H locs cells slots ls h1 h2 h3 h4 h5
  exact w_putfB C F (h1 a _ hg).1 hl hfit d (fun H1 sl a1 a2 a3 => k H1 _ cells slots ls (hf_put h1 (h1 a _ hg).2 a1 a3) (h2.put a2 a3 (h1 a _ hg).2) h3 h4 h5)
theorem y_putFB (n tk : Nat) {ci j idx a : Nat} {fs : List Value} {v : Value} (C : CX E p R s m args meth c cc nL own mc ms ret) (F : FW own idx ci j tk true) (hin : meth.name = "<init>") (hg : G a = some (.inr (ci, fs))) (hl : j < fs.length) (hfit : ∀ (r : vw_C) (ty : FieldType), CL[ci]? = some r → parseFieldDescriptor (r.2.1 j).2.2.1 = some ty → narrow ty v = v ∧ fits ty v = true) (d : decode cc pc = .ok (.putfield idx, 3)) (hn : pc + 3 = n) (hG : va_up G a (some (.inr (ci, fs.set j v))) = G')
    (k : YW E p l e R s m args below meth c nL mc ms Q G' kc ks n L st) : YW E p l e R s m args below meth c nL mc ms Q G kc ks pc L (v :: .ref a :: st) := by
  subst hn
  subst hG
  intro H locs cells slots ls h1 h2 h3 h4 h5
  exact w_putFB C F hin (h1 a _ hg).1 hl hfit d (fun H1 sl a1 a2 a3 => k H1 _ cells slots ls (hf_put h1 (h1 a _ hg).2 a1 a3) (h2.put a2 a3 (h1 a _ hg).2) h3 h4 h5)
end YFB
/-- the constant texts: 0 "https://", 1 "http://" -/
def kS (E : EV) (i : Nat) : Nat := E.2.1 (10 + 2 * i)
def kV (E : EV) (i : Nat) : Nat := E.2.1 (11 + 2 * i)
def kT (i : Nat) : List Nat := if i = 0 then [104, 116, 116, 112, 115, 58, 47, 47] else [104, 116, 116, 112, 58, 47, 47]
theorem kT_len {i : Nat} (h : i < 2) : (kT i).length ≤ 8 := by
  unfold kT
  split <;> decide
theorem kT_in {i : Nat} : ∀ x ∈ kT i, x < 128 := by
  unfold kT
  split <;> decide
theorem kK {E : EV} {p : Program} {R : Room} {s : State} {m : MethodId} {args : Array Value} {meth : Method} {c : Code} {cc : ByteArray} {nL mc ms : Nat} {own : String} {ret : Option FieldType} (C : CX E p R s m args meth c cc nL own mc ms ret) {i : Nat} (hi : i < 2) :
    va_OF "java/lang/String" "coder" "B" (.int 0) (kS E i) (bA E) s s.heap ∧ va_OF "java/lang/String" "value" "[B" (.ref (kV E i)) (kS E i) (bA E) s s.heap ∧ va_T .byte (kV E i) (kT i).length (fun j => .int (sb_b ((kT i).getD j 0))) (bA E) s s.heap ∧ va_O "java/lang/String" (kS E i) (bA E) s s.heap := by
  have hST := C.2.2.2.2.2.2.1.2
  have e8 : ∀ j, (([[104, 116, 116, 112, 115, 58, 47, 47]] : List (List Int32)).getD 0 []).getD j 0 = sb_b ((kT 0).getD j 0) := fun j => by
    rcases j with _ | _ | _ | _ | _ | _ | _ | _ | j <;> first | rfl | decide | (show (0 : Int32) = sb_b 0; decide)
  have e7 : ∀ j, (([[104, 116, 116, 112, 58, 47, 47]] : List (List Int32)).getD 0 []).getD j 0 = sb_b ((kT 1).getD j 0) := fun j => by
    rcases j with _ | _ | _ | _ | _ | _ | _ | j <;> first | rfl | decide | (show (0 : Int32) = sb_b 0; decide)
  have h2 : i = 0 ∨ i = 1 := by omega
  rcases h2 with rfl | rfl
  · obtain ⟨q1, q2, q3, q4⟩ := hST.2.2.2.1.1.1 0 (by decide)
    refine ⟨q2, q3, ?_, q1⟩
    rw [show (fun j => Value.int (sb_b ((kT 0).getD j 0))) = fun j => .int ((([[104, 116, 116, 112, 115, 58, 47, 47]] : List (List Int32)).getD 0 []).getD j 0) from funext fun j => by rw [e8]]
    exact q4
  · obtain ⟨q1, q2, q3, q4⟩ := hST.2.2.2.2.1.1.1 0 (by decide)
    refine ⟨q2, q3, ?_, q1⟩
    rw [show (fun j => Value.int (sb_b ((kT 1).getD j 0))) = fun j => .int ((([[104, 116, 116, 112, 58, 47, 47]] : List (List Int32)).getD 0 []).getD j 0) from funext fun j => by rw [e7]]
    exact q4
section YT
variable {E : EV} {p : Program} {l : Launch} {e : Env} {R : Room} {s : State} {m : MethodId} {args : Array Value} {below : List Frame} {meth : Method} {c : Code} {cc : ByteArray} {nL mc ms : Nat} {own : String} {ret : Option FieldType} {Q : State → Prop} {G : FT} {kc ks pc : Nat} {L : List (Option Value)} {st st0 : List Value}
variable {y : MethodName} {cc1 : ByteArray} {nL1 : Nat} {ret1 : Option FieldType} {fr1 lo1 mc1 ms1 idx b : Nat} {As : List Value} {post : Option Value → FT → Prop}
theorem y_callU (n0 ci kc' ks' : Nat) {n : Nat} {Cn : String} {Tn : u_T} {N : Nat} {fs : List Value} (C : CX E p R s m args meth c cc nL own mc ms ret) (hV : UW own idx Cn y cc1 nL1 ret1 n) (hM : MR E l y cc1 nL1 ret1 fr1 lo1 mc1 ms1 (.ref b :: As) G post) (d : decode cc pc = .ok (.invokevirtual idx, 3)) (hn : pc + 3 = n0)
    (hst : As.reverse ++ .ref b :: st = st0) (hlen : As.length = n) (hc : CL[ci]? = some (Cn, Tn, N)) (hk : G b = some (.inr (ci, fs))) (hR : fr1 + 1 ≤ R.frames ∧ 8 + (nL1 + 11) + lo1 ≤ R.locals) (hw : (st.map fun v => v.category).sum ≤ 8) (hkc : kc' + mc1 ≤ kc ∧ ks' + ms1 ≤ ks)
    (kk : ∀ (v : Option Value) (G' : FT), post v G' → YW E p l e R s m args below meth c nL mc ms Q G' kc' ks' n0 L (v.toList ++ st)) : YW E p l e R s m args below meth c nL mc ms Q G kc ks pc L st0 := by
  subst hn
  subst hst
  intro H locs cells slots ls h1 h2 h3' h4 h5
  have hts := C.2.2.2.2.1
  have hrc := y_recv C h1 hk hc
  have hf : cells + mc1 ≤ R.cells ∧ slots + ms1 ≤ R.slots := ⟨Nat.le_trans (by omega) C.2.2.2.2.2.2.2.2.1.1, Nat.le_trans (by omega) C.2.2.2.2.2.2.2.2.1.2⟩
  have hp : PreV s H Cn b (PR E (.ref b :: As) G) As := ⟨wf_blind, hrc, fun U hU hW => ⟨rfl, wf_of C h1 h2 hU hW⟩⟩
  obtain ⟨⟨v1, v2, v3, v4, v5⟩, v6, v7, v8, v9⟩ := hV
  have cw := va_cwU (R := R) (s := s) (args := args) (C := Cn) (owner := y.cls) (rm := ({ frames := fr1, cells := mc1, slots := ms1, locals := lo1 } : Room)) n hts (good_five v3 v4 v6 v5 v2 (aw_in v1)) rfl rfl rfl rfl ⟨v7, v8, v9⟩ hR
  have go : va_Run p l e R s m args below meth c H locs cells slots mc1 ms1 (F0 m pc ls (As.reverse ++ .ref (b) :: st)) st (QR E post (Value.ref (b) :: As).toArray) (bA E) := va_runU (Ts := AW) ⟨C.1, C.2.1, C.2.2.1, C.2.2.2.1, hts⟩ hM cw hp rfl hlen h3'.1 rfl (lv_room hw) d hf
  exact w_callY go h2 C.2.2.2.2.2.2.2.1 (fun v G' H1 locs1 a1 a2 a3 => kk v G' a3 H1 locs1 _ _ ls a1 a2 h3' (by omega) (by omega))
theorem y_callSU (n0 ci kc' ks' : Nat) {n : Nat} {Cn : String} {Tn : u_T} {N : Nat} {fs : List Value} (C : CX E p R s m args meth c cc nL own mc ms ret) (hV : SW own idx y cc1 nL1 ret1 n) (hM : MR E l y cc1 nL1 ret1 fr1 lo1 mc1 ms1 (.ref b :: As) G post) (d : decode cc pc = .ok (.invokespecial idx, 3)) (hn : pc + 3 = n0)
    (hst : As.reverse ++ .ref b :: st = st0) (hlen : As.length = n) (hc : CL[ci]? = some (Cn, Tn, N)) (hk : G b = some (.inr (ci, fs))) (hR : fr1 + 1 ≤ R.frames ∧ 8 + (nL1 + 11) + lo1 ≤ R.locals) (hw : (st.map fun v => v.category).sum ≤ 8) (hkc : kc' + mc1 ≤ kc ∧ ks' + ms1 ≤ ks)
    (kk : ∀ (v : Option Value) (G' : FT), post v G' → YW E p l e R s m args below meth c nL mc ms Q G' kc' ks' n0 L (v.toList ++ st)) : YW E p l e R s m args below meth c nL mc ms Q G kc ks pc L st0 := by
  subst hn
  subst hst
  intro H locs cells slots ls h1 h2 h3' h4 h5
  have hts := C.2.2.2.2.1
  have hrc := y_recv C h1 hk hc
  have hf : cells + mc1 ≤ R.cells ∧ slots + ms1 ≤ R.slots := ⟨Nat.le_trans (by omega) C.2.2.2.2.2.2.2.2.1.1, Nat.le_trans (by omega) C.2.2.2.2.2.2.2.2.1.2⟩
  have hp : PreV s H Cn b (PR E (.ref b :: As) G) As := ⟨wf_blind, hrc, fun U hU hW => ⟨rfl, wf_of C h1 h2 hU hW⟩⟩
  obtain ⟨⟨v1, v2, v3, v4, v5⟩, v6, v7, v8⟩ := hV
  have cw := va_cwSU (R := R) (s := s) (args := args) (rm := ({ frames := fr1, cells := mc1, slots := ms1, locals := lo1 } : Room)) n hts (good_five v3 v4 v6 v5 v2 (aw_in v1)) rfl rfl rfl ⟨v7, v8⟩ hR
  obtain ⟨-, hfc, kC, hkC, hkind⟩ := C.2.2.2.2.2.1.1 ci _ hc
  have go : va_Run p l e R s m args below meth c H locs cells slots mc1 ms1 (F0 m pc ls (As.reverse ++ .ref (b) :: st)) st (QR E post (Value.ref (b) :: As).toArray) (bA E) := va_runSU (Ts := AW) ⟨hfc, kC, hkC, hkind⟩ ⟨C.1, C.2.1, C.2.2.1, C.2.2.2.1, hts⟩ hM cw hp rfl hlen h3'.1 rfl (lv_room hw) d hf
  exact w_callY go h2 C.2.2.2.2.2.2.2.1 (fun v G' H1 locs1 a1 a2 a3 => kk v G' a3 H1 locs1 _ _ ls a1 a2 h3' (by omega) (by omega))
/-- a method of the class above that the receiver's class has anew -/
def OWd (own : String) (idx : Nat) (Cr : String) (x y : MethodName) (cc : ByteArray) (nL : Nat) (ret : Option FieldType) (n : Nat) : Prop :=
  (Cond.code y cc nL ret ∈ AW ∧ Cond.initialized y.cls ∈ AW ∧ Cond.methodLink own idx x ∈ AW ∧ Cond.sameMethod x.cls x.cls x.name x.desc ∈ AW ∧ Cond.instanceMethod y ∈ AW ∧ Cond.instanceMethod x ∈ AW) ∧ (∃ (b0 : ByteArray) (m0 : Nat) (r0 : Option FieldType), Cond.code x b0 m0 r0 ∈ AW) ∧ Cond.selects Cr x y ∈ AW ∧ x.cls ≠ "java/lang/invoke/MethodHandle" ∧ x.cls ≠ "java/lang/invoke/VarHandle" ∧ (parseMethodDescriptor x.desc).map (fun d => d.parameters.length) = some n
theorem y_callO (n0 ci kc' ks' : Nat) {n : Nat} {x : MethodName} {Cn : String} {Tn : u_T} {N : Nat} {fs : List Value} (C : CX E p R s m args meth c cc nL own mc ms ret) (hV : OWd own idx Cn x y cc1 nL1 ret1 n) (hM : MR E l y cc1 nL1 ret1 fr1 lo1 mc1 ms1 (.ref b :: As) G post) (d : decode cc pc = .ok (.invokevirtual idx, 3)) (hn : pc + 3 = n0)
    (hst : As.reverse ++ .ref b :: st = st0) (hlen : As.length = n) (hc : CL[ci]? = some (Cn, Tn, N)) (hk : G b = some (.inr (ci, fs))) (hR : fr1 + 1 ≤ R.frames ∧ 8 + (nL1 + 11) + lo1 ≤ R.locals) (hw : (st.map fun v => v.category).sum ≤ 8) (hkc : kc' + mc1 ≤ kc ∧ ks' + ms1 ≤ ks)
    (kk : ∀ (v : Option Value) (G' : FT), post v G' → YW E p l e R s m args below meth c nL mc ms Q G' kc' ks' n0 L (v.toList ++ st)) : YW E p l e R s m args below meth c nL mc ms Q G kc ks pc L st0 := by
  subst hn
  subst hst
  intro H locs cells slots ls h1 h2 h3' h4 h5
  have hts := C.2.2.2.2.1
  have hrc := y_recv C h1 hk hc
  have hf : cells + mc1 ≤ R.cells ∧ slots + ms1 ≤ R.slots := ⟨Nat.le_trans (by omega) C.2.2.2.2.2.2.2.2.1.1, Nat.le_trans (by omega) C.2.2.2.2.2.2.2.2.1.2⟩
  have hp : PreV s H Cn b (PR E (.ref b :: As) G) As := ⟨wf_blind, hrc, fun U hU hW => ⟨rfl, wf_of C h1 h2 hU hW⟩⟩
  obtain ⟨⟨v1, v2, v3, v4, v5, v5'⟩, ⟨b0, m0, r0, v10⟩, v6, v7, v8, v9⟩ := hV
  have cw := va_cwO (R := R) (s := s) (args := args) (C := Cn) (owner := x.cls) (rm := ({ frames := fr1, cells := mc1, slots := ms1, locals := lo1 } : Room)) n hts (good_six v3 v4 v5' v6 v5 v2 (aw_in v1)) rfl rfl rfl v10 ⟨v7, v8, v9⟩ hR
  have go : va_Run p l e R s m args below meth c H locs cells slots mc1 ms1 (F0 m pc ls (As.reverse ++ .ref (b) :: st)) st (QR E post (Value.ref (b) :: As).toArray) (bA E) := va_runU (Ts := AW) ⟨C.1, C.2.1, C.2.2.1, C.2.2.2.1, hts⟩ hM cw hp rfl hlen h3'.1 rfl (lv_room hw) d hf
  exact w_callY go h2 C.2.2.2.2.2.2.2.1 (fun v G' H1 locs1 a1 a2 a3 => kk v G' a3 H1 locs1 _ _ ls a1 a2 h3' (by omega) (by omega))
/-- a method of a constant text -/
theorem y_callK (n0 i kc' ks' : Nat) {n : Nat} (hi : i < 2) (C : CX E p R s m args meth c cc nL own mc ms ret) (hV : VW own idx y cc1 nL1 ret1 n) (hin : Cond.instanceMethod y ∈ AW) (hs : Cond.selects y.cls y y ∈ AW) (hM : MR E l y cc1 nL1 ret1 fr1 lo1 mc1 ms1 (.ref (kS E i) :: As) G post) (d : decode cc pc = .ok (.invokevirtual idx, 3)) (hn : pc + 3 = n0)
    (hst : As.reverse ++ .ref (kS E i) :: st = st0) (hlen : As.length = n) (hy : y.cls = "java/lang/String") (hR : fr1 + 1 ≤ R.frames ∧ 8 + (nL1 + 11) + lo1 ≤ R.locals) (hw : (st.map fun v => v.category).sum ≤ 8) (hkc : kc' + mc1 ≤ kc ∧ ks' + ms1 ≤ ks) (hl : Cond.methodLink own idx y ∈ AW)
    (kk : ∀ (v : Option Value) (G' : FT), post v G' → YW E p l e R s m args below meth c nL mc ms Q G' kc' ks' n0 L (v.toList ++ st)) : YW E p l e R s m args below meth c nL mc ms Q G kc ks pc L st0 := by
  subst hn
  subst hst
  intro H locs cells slots ls h1 h2 h3' h4 h5
  have hts := C.2.2.2.2.1
  have hrc : ∃ cell : Cell, H[kS E i]? = some cell ∧ cell.vm.isStatics = false ∧ s.vm.findClass "java/lang/String" = some cell.cls := by
    obtain ⟨cell, a1, a2, a3, a4⟩ := (kK C hi).2.2.2.kept h2.2.1
    exact ⟨cell, a1, a2, a3⟩
  have hf : cells + mc1 ≤ R.cells ∧ slots + ms1 ≤ R.slots := ⟨Nat.le_trans (by omega) C.2.2.2.2.2.2.2.2.1.1, Nat.le_trans (by omega) C.2.2.2.2.2.2.2.2.1.2⟩
  have hp : PreV s H "java/lang/String" (kS E i) (PR E (.ref (kS E i) :: As) G) As := ⟨wf_blind, hrc, fun U hU hW => ⟨rfl, wf_of C h1 h2 hU hW⟩⟩
  have go : va_Run p l e R s m args below meth c H locs cells slots mc1 ms1 (F0 m pc ls (As.reverse ++ .ref (kS E i) :: st)) st (QR E post (Value.ref (kS E i) :: As).toArray) (bA E) := va_runV (Ts := AW) ⟨C.1, C.2.1, C.2.2.1, C.2.2.2.1, hts⟩ hM ⟨w_callB C hV hR hl, hts _ hin, by rw [← hy]; exact hts _ hs⟩ hp rfl hlen h3'.1 rfl (lv_room hw) d hf
  exact w_callY go h2 C.2.2.2.2.2.2.2.1 (fun v G' H1 locs1 a1 a2 a3 => kk v G' a3 H1 locs1 _ _ ls a1 a2 h3' (by omega) (by omega))
theorem y_getK (n i : Nat) (hi : i < 2) (C : CX E p R s m args meth c cc nL own mc ms ret) (hl : Cond.fieldLink own idx "java/lang/String" "value" "[B" ∈ AW) (d : decode cc pc = .ok (.getfield idx, 3)) (hn : pc + 3 = n)
    (k : YW E p l e R s m args below meth c nL mc ms Q G kc ks n L (.ref (kV E i) :: st)) : YW E p l e R s m args below meth c nL mc ms Q G kc ks pc L (.ref (kS E i) :: st) := by
  subst hn
  intro H locs cells slots ls h1 h2 h3 h4 h5
  exact vk_getf C.1 C.2.1 (kK C hi).2.1 h2 C.2.2.2.1 (C.2.2.2.2.1 _ hl) (fun _ h => h) d (k H locs cells slots ls h1 h2 h3 h4 h5)
theorem y_getKc (n i : Nat) (hi : i < 2) (C : CX E p R s m args meth c cc nL own mc ms ret) (hl : Cond.fieldLink own idx "java/lang/String" "coder" "B" ∈ AW) (d : decode cc pc = .ok (.getfield idx, 3)) (hn : pc + 3 = n)
    (k : YW E p l e R s m args below meth c nL mc ms Q G kc ks n L (.int (i32 0) :: st)) : YW E p l e R s m args below meth c nL mc ms Q G kc ks pc L (.ref (kS E i) :: st) := by
  subst hn
  intro H locs cells slots ls h1 h2 h3 h4 h5
  exact vk_getf C.1 C.2.1 (kK C hi).1 h2 C.2.2.2.1 (C.2.2.2.2.1 _ hl) (fun _ h => h) d (k H locs cells slots ls h1 h2 h3 h4 h5)
theorem y_alenK (n i : Nat) (hi : i < 2) (C : CX E p R s m args meth c cc nL own mc ms ret) (d : decode cc pc = .ok (.arraylength, 1)) (hn : pc + 1 = n)
    (k : YW E p l e R s m args below meth c nL mc ms Q G kc ks n L (.int (i32 ((kT i).length : Int)) :: st)) : YW E p l e R s m args below meth c nL mc ms Q G kc ks pc L (.ref (kV E i) :: st) := by
  subst hn
  intro H locs cells slots ls h1 h2 h3 h4 h5
  exact va_tlen C.1 C.2.1 (kK C hi).2.2.1 h2 (i32_nI _) d (k H locs cells slots ls h1 h2 h3 h4 h5)
theorem y_copyK (n i : Nat) (hi : i < 2) {b N1 dp : Nat} {g1 : Nat → Int32} {xd : Int} (C : CX E p R s m args meth c cc nL own mc ms ret) (Y : YS own idx) (hg1 : G b = some (aB E N1 g1)) (hxe : xd = (dp : Int)) (hz : N1 ≤ 5000 ∧ dp + (kT i).length ≤ N1)
    (hR : 1 ≤ R.frames ∧ (st.map fun v => v.category).sum + 40 ≤ R.locals) (d : decode cc pc = .ok (.invokestatic idx, 3)) (hn : pc + 3 = n)
    (k : YW E p l e R s m args below meth c nL mc ms Q (va_up G b (some (aB E N1 (va_cpy (fun j => sb_b ((kT i).getD j 0)) g1 0 dp (kT i).length)))) kc ks n L st) : YW E p l e R s m args below meth c nL mc ms Q G kc ks pc L (.int (i32 ((kT i).length : Int)) :: .int (i32 xd) :: .ref b :: .int (i32 0) :: .ref (kV E i) :: st) := by
  subst hn
  subst hxe
  intro H locs cells slots ls h1 h2 h3 h4 h5
  obtain ⟨ws, w1, w2, w3, w4⟩ := hf_ws h1
  obtain ⟨q1, e1⟩ := w3 b _ hg1
  have hts := C.2.2.2.2.1
  have hk8 := kT_len hi
  have c1 : (nI 0).toNatClampNeg = 0 := nI_clamp (by omega)
  have c2 : (nI dp).toNatClampNeg = dp := nI_clamp (by omega)
  have c3 : (nI (kT i).length).toNatClampNeg = (kT i).length := nI_clamp (by omega)
  rw [← i32_nI, ← i32_nI, show i32 0 = nI 0 from rfl]
  refine vk_copyt C.1 C.2.1 (C.2.2.1.trans h3.1.symm) C.2.2.2.1 (hts _ Y.1) (hts _ Y.2.1) (hts _ Y.2.2.1) (hts _ Y.2.2.2) C.2.2.2.2.2.1 w1 w2 h2 (kK C hi).2.2.1 q1 2 e1 rfl (nI_pos (by omega)) (nI_pos (by omega)) (nI_pos (by omega)) (by rw [c1, c3]; omega) (by rw [c2, c3]; omega) (fun j _ => sb_fitB _) hR.1 (Nat.le_trans (Nat.add_le_add_left (show nativeFrameWords "java/lang/System" "arraycopy" 5 + 11 ≤ 40 by decide) _) hR.2) d (fun H1 locs1 p1 d1 s1 => ?_)
  rw [c1, c2, c3] at p1
  exact k H1 locs1 cells slots ls (hf_set w3 e1 h1.lo hg1 p1) s1 h3 h4 h5
/-- a new object: its fields at their defaults -/
def NWd (own : String) (idx ci : Nat) (Cn : String) (N : Nat) (fs : List Value) : Prop := ∃ (Tn : u_T) (ty : Nat → FieldType), CL[ci]? = some (Cn, Tn, N) ∧ (∀ w ∈ u_ws Cn Tn N, w ∈ AW) ∧ (∀ k, k < N → parseFieldDescriptor (Tn k).2.2.1 = some (ty k)) ∧ Cond.classLink own idx Cn ∈ AW ∧ Cond.instantiable Cn N ∈ AW ∧ Cond.initialized Cn ∈ AW ∧ ∀ j, j < N → defaultValue (ty j) = vp_V fs j
theorem y_new (n : Nat) {ci N kc0 ks0 : Nat} {Cn : String} {fs : List Value} (C : CX E p R s m args meth c cc nL own mc ms ret) (F : NWd own idx ci Cn N fs) (d : decode cc pc = .ok (.new idx, 3)) (hn : pc + 3 = n) (hk : kc0 + 1 ≤ kc ∧ ks0 + N ≤ ks)
    (k : ∀ q, G q = none → YW E p l e R s m args below meth c nL mc ms Q (va_up G q (some (.inr (ci, fs)))) kc0 ks0 n L (.ref q :: st)) : YW E p l e R s m args below meth c nL mc ms Q G kc ks pc L st := by
  subst hn
  intro H locs cells slots ls h1 h2 h3 h4 h5
  obtain ⟨ws, w1, w2, w3, w4⟩ := hf_ws h1
  obtain ⟨Tn, ty, f1, f2, f3, f4, f5, f6, f7⟩ := F
  have hts := C.2.2.2.2.1
  have hR1 := C.2.2.2.2.2.2.2.2.1
  refine va_new C.1 C.2.1 hts f2 ty f3 C.2.2.2.1 (hts _ f4) (hts _ f5) (hts _ f6) C.2.2.2.2.2.1 w1 w2 h2 (fun q hq => Nat.le_trans C.2.2.2.2.2.2.2.1 hq) f1 f7 (by omega) (by omega) d (fun q H1 p1 d1 s1 => ?_)
  obtain ⟨z1, z2⟩ := hf_push w3 h1.lo p1 d1
  exact k q z1 H1 locs _ _ ls z2 s1 h3 (by omega) (by omega)
/-- the tables of decimal digits -/
theorem y_getsD1 (n : Nat) (C : CX E p R s m args meth c cc nL own mc ms ret) (hl : Cond.fieldLink own idx "java/lang/Integer" "DigitOnes" "[B" ∈ AW) (d : decode cc pc = .ok (.getstatic idx, 3)) (hn : pc + 3 = n)
    (k : ∀ t, va_T .byte t 100 (fun j => .int (i32 (48 + (j : Int) % 10))) (bA E) s s.heap → YW E p l e R s m args below meth c nL mc ms Q G kc ks n L (.ref t :: st)) : YW E p l e R s m args below meth c nL mc ms Q G kc ks pc L st := by
  subst hn
  intro H locs cells slots ls h1 h2 h3 h4 h5
  obtain ⟨t, t1, t2⟩ := C.2.2.2.2.2.2.1.2.2.1
  exact va_gets C.1 C.2.1 t1 h2 C.2.2.2.1 (C.2.2.2.2.1 _ hl) (fun _ h => h) d (k t t2 H locs cells slots ls h1 h2 h3 h4 h5)
theorem y_getsD2 (n : Nat) (C : CX E p R s m args meth c cc nL own mc ms ret) (hl : Cond.fieldLink own idx "java/lang/Integer" "DigitTens" "[B" ∈ AW) (d : decode cc pc = .ok (.getstatic idx, 3)) (hn : pc + 3 = n)
    (k : ∀ t, va_T .byte t 100 (fun j => .int (i32 (48 + (j : Int) / 10))) (bA E) s s.heap → YW E p l e R s m args below meth c nL mc ms Q G kc ks n L (.ref t :: st)) : YW E p l e R s m args below meth c nL mc ms Q G kc ks pc L st := by
  subst hn
  intro H locs cells slots ls h1 h2 h3 h4 h5
  obtain ⟨t, t1, t2⟩ := C.2.2.2.2.2.2.1.2.2.2.1
  exact va_gets C.1 C.2.1 t1 h2 C.2.2.2.1 (C.2.2.2.2.1 _ hl) (fun _ h => h) d (k t t2 H locs cells slots ls h1 h2 h3 h4 h5)
theorem y_tb (n : Nat) {t : Nat} {f : Nat → Value} {x : Int} (C : CX E p R s m args meth c cc nL own mc ms ret) (hT : va_T .byte t 100 f (bA E) s s.heap) (hx : 0 ≤ x ∧ x < 100) (d : decode cc pc = .ok (.baload, 1)) (hn : pc + 1 = n)
    (k : YW E p l e R s m args below meth c nL mc ms Q G kc ks n L (f x.toNat :: st)) : YW E p l e R s m args below meth c nL mc ms Q G kc ks pc L (.int (i32 x) :: .ref t :: st) := by
  subst hn
  intro H locs cells slots ls h1 h2 h3 h4 h5
  have hr : InR x := ⟨by omega, by omega⟩
  exact va_tb C.1 C.2.1 hT h2 (i32_idx hr hx.1 (by omega)) (by rw [i32_clamp hr hx.1]) d (k H locs cells slots ls h1 h2 h3 h4 h5)
/-- the formatter of the machine's own texts: a reference or null -/
theorem y_getsF (n : Nat) (C : CX E p R s m args meth c cc nL own mc ms ret) (hl : Cond.fieldLink own idx "jdk/internal/util/Preconditions" "SIOOBE_FORMATTER" "Ljava/util/function/BiFunction;" ∈ AW) (d : decode cc pc = .ok (.getstatic idx, 3)) (hn : pc + 3 = n)
    (k : ∀ r : Option Nat, YW E p l e R s m args below meth c nL mc ms Q G kc ks n L (va_rf r :: st)) : YW E p l e R s m args below meth c nL mc ms Q G kc ks pc L st := by
  subst hn
  intro H locs cells slots ls h1 h2 h3 h4 h5
  rcases C.2.2.2.2.2.2.1.2.1.2.2 with h | ⟨t, h⟩
  · exact va_gets C.1 C.2.1 h h2 C.2.2.2.1 (C.2.2.2.2.1 _ hl) (fun _ h => h) d (k none H locs cells slots ls h1 h2 h3 h4 h5)
  · exact va_gets C.1 C.2.1 h h2 C.2.2.2.1 (C.2.2.2.2.1 _ hl) (fun _ h => h) d (k (some t) H locs cells slots ls h1 h2 h3 h4 h5)
/-- a quotient of a number below 0 -/
theorem y_idivN (n : Nat) (C : CX E p R s m args meth c cc nL own mc ms ret) {x y : Int} (d : decode cc pc = .ok (.idiv, 1)) (hn : pc + 1 = n) (hr : (0 ≤ x ∧ x ≤ 2147483647) ∧ (0 < y ∧ y ≤ 2147483647))
    (k : YW E p l e R s m args below meth c nL mc ms Q G kc ks n L (.int (i32 (-(x / y))) :: st)) : YW E p l e R s m args below meth c nL mc ms Q G kc ks pc L (.int (i32 y) :: .int (i32 (-x)) :: st) := by
  subst hn
  intro H locs cells slots ls h1 h2 h3 h4 h5
  have hx : InR (-x) := ⟨by omega, by omega⟩
  have hy : InR y := ⟨by omega, hr.2.2⟩
  have hq : 0 ≤ x / y ∧ x / y ≤ x := ⟨Int.ediv_nonneg hr.1.1 (by omega), Int.ediv_le_self _ hr.1.1⟩
  have e : i32 (-x) / i32 y = i32 (-(x / y)) := by
    refine Int32.toInt_inj.mp ?_
    rw [Int32.toInt_div, i32_toInt hx, i32_toInt hy, i32_toInt (⟨by omega, by omega⟩), Int.neg_tdiv, Int.tdiv_eq_ediv_of_nonneg hr.1.1]
    exact Int.bmod_eq_of_le (by omega) (by omega)
  exact lv_idiv C.1 C.2.1 d (fun z => by rw [i32_0] at z; have := i32_inj hy ⟨by omega, by omega⟩ z; omega) (by rw [e]; exact k H locs cells slots ls h1 h2 h3 h4 h5)
end YT
