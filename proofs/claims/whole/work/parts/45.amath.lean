/-! Math.max and Math.min, whose class isn't a plain one: rows of their own -/
def MWm (own : String) (idx : Nat) (y : MethodName) (cc : ByteArray) : Prop := Cond.methodLink own idx y ∈ AW ∧ Cond.static y ∈ AW ∧ Cond.initialized "java/lang/Math" ∈ AW ∧ Cond.code y cc 2 (some .int) ∈ AW
theorem mw_J8_194 : MWm RJ8 194 Lib.Math.max.name Lib.Math.max.code := ⟨aw_i 416 (by decide +kernel) rfl, aw_i 417 (by decide +kernel) rfl, aw_i 107 (by decide +kernel) rfl, aw_i 418 (by decide +kernel) rfl⟩
theorem mw_Jx_79 : MWm RJx4a65c 79 Lib.Math.max.name Lib.Math.max.code := ⟨aw_i 461 (by decide +kernel) rfl, aw_i 417 (by decide +kernel) rfl, aw_i 107 (by decide +kernel) rfl, aw_i 418 (by decide +kernel) rfl⟩
theorem mw_J7_304 : MWm RJ7 304 Lib.Math.min.name Lib.Math.min.code := ⟨aw_i 455 (by decide +kernel) rfl, aw_i 456 (by decide +kernel) rfl, aw_i 107 (by decide +kernel) rfl, aw_i 457 (by decide +kernel) rfl⟩
section YMM
variable {E : EV} {p : Program} {l : Launch} {e : Env} {R : Room} {s : State} {m : MethodId} {args : Array Value} {below : List Frame} {meth : Method} {c : Code} {cc : ByteArray} {nL mc ms : Nat} {own : String} {ret : Option FieldType} {Q : State → Prop} {G : FT} {kc ks pc : Nat} {L : List (Option Value)} {st : List Value}
theorem y_mmax (n : Nat) {idx : Nat} {x y : Int} (C : CX E p R s m args meth c cc nL own mc ms ret) (hw : MWm own idx Lib.Math.max.name Lib.Math.max.code) (hR : 1 ≤ R.frames ∧ (st.map fun v => v.category).sum + 13 ≤ R.locals) (hx : InR x) (hy : InR y) (d : decode cc pc = .ok (.invokestatic idx, 3)) (hn : pc + 3 = n)
    (k : YW E p l e R s m args below meth c nL mc ms Q G kc ks n L (.int (i32 (max x y)) :: st)) : YW E p l e R s m args below meth c nL mc ms Q G kc ks pc L (.int (i32 y) :: .int (i32 x) :: st) := by
  subst hn
  intro H locs cells slots ls h1 h2 h3 h4 h5
  have hts := C.2.2.2.2.1
  have hRR := C.2.2.2.2.2.2.2.2.1
  refine va_mmax C.1 C.2.1 (C.2.2.1.trans h3.1.symm) C.2.2.2.1 (hts _ hw.1) (hts _ hw.2.1) (hts _ hw.2.2.1) (hts _ hw.2.2.2) hR.1 hR.2 (by omega) (by omega) d ?_
  have e : (if i32 x < i32 y then i32 y else i32 x) = i32 (max x y) := by
    by_cases hxy : x < y
    · rw [if_pos ((i32_lt hx hy).mpr hxy), Int.max_eq_right (by omega)]
    · rw [if_neg (fun z => hxy ((i32_lt hx hy).mp z)), Int.max_eq_left (by omega)]
  rw [e]
  exact k H locs cells slots ls h1 h2 h3 h4 h5
theorem y_mmin (n : Nat) {idx : Nat} {x y : Int} (C : CX E p R s m args meth c cc nL own mc ms ret) (hw : MWm own idx Lib.Math.min.name Lib.Math.min.code) (hR : 1 ≤ R.frames ∧ (st.map fun v => v.category).sum + 13 ≤ R.locals) (hx : InR x) (hy : InR y) (d : decode cc pc = .ok (.invokestatic idx, 3)) (hn : pc + 3 = n)
    (k : YW E p l e R s m args below meth c nL mc ms Q G kc ks n L (.int (i32 (min x y)) :: st)) : YW E p l e R s m args below meth c nL mc ms Q G kc ks pc L (.int (i32 y) :: .int (i32 x) :: st) := by
  subst hn
  intro H locs cells slots ls h1 h2 h3 h4 h5
  have hts := C.2.2.2.2.1
  have hRR := C.2.2.2.2.2.2.2.2.1
  refine va_mmin C.1 C.2.1 (C.2.2.1.trans h3.1.symm) C.2.2.2.1 (hts _ hw.1) (hts _ hw.2.1) (hts _ hw.2.2.1) (hts _ hw.2.2.2) hR.1 hR.2 (by omega) (by omega) d ?_
  have e : (if i32 y < i32 x then i32 y else i32 x) = i32 (min x y) := by
    by_cases hxy : y < x
    · rw [if_pos ((i32_lt hy hx).mpr hxy), Int.min_eq_right (by omega)]
    · rw [if_neg (fun z => hxy ((i32_lt hy hx).mp z)), Int.min_eq_left (by omega)]
  rw [e]
  exact k H locs cells slots ls h1 h2 h3 h4 h5
end YMM
