/-! the law's own patterns: an entry of the script, a flag, what both answered -/
def lwX (xs : Nat → Int32) (i j : Int) : Int := (xs (i + j).toNat).toInt
theorem lwI (xs : Nat → Int32) (i j : Int) : InR (lwX xs i j) := inR_toInt _
def lwF (v : Int) : Int := if v = 0 then 0 else 1
theorem lwF_01 (v : Int) : lwF v = 0 ∨ lwF v = 1 := by
  unfold lwF
  split
  · exact Or.inl rfl
  · exact Or.inr rfl
theorem lwF_in (v : Int) : InR (lwF v) := by
  rcases lwF_01 v with h | h <;> rw [h] <;> exact ⟨by decide, by decide⟩
section LAWR
variable {E : EV} {p : Program} {l : Launch} {e : Env} {R : Room} {s : State} {m : MethodId} {args : Array Value} {below : List Frame} {meth : Method} {c : Code} {cc : ByteArray} {nL mc ms : Nat} {own : String} {ret : Option FieldType} {Q : State → Prop} {G : GT} {kc ks pc : Nat} {L : List (Option Value)} {st : List Value} {bS LS : Nat} {xs : Nat → Int32} {i : Int}
theorem x_arg (q : Nat) (j : Int) (C : CX E p R s m args meth c cc nL own mc ms ret) (hX : va_X bS LS xs s s.heap) (hbl : bS < s.heap.size) (hE : s.heap.size ≤ E.2.2.1) (hi : 0 ≤ i ∧ i + 8 ≤ LS ∧ LS ≤ 4096) (hj : 0 ≤ j ∧ j ≤ 7) (d0 : decode cc pc = .ok (.aload_n 0, 1)) (d1 : decode cc (pc + 1) = .ok (.iload 4, 2)) (d2 : decode cc (pc + 3) = .ok (.iconst j, 1)) (d3 : decode cc (pc + 4) = .ok (.iadd, 1)) (d4 : decode cc (pc + 5) = .ok (.iaload, 1)) (hn : pc + 6 = q) (h0 : L[0]? = some (some (.ref bS))) (h4 : L[4]? = some (some (.int (i32 i))))
    (k : XW E p l e R s m args below meth c nL mc ms Q G kc ks q L (.int (i32 (lwX xs i j)) :: st)) : XW E p l e R s m args below meth c nL mc ms Q G kc ks pc L st := by
  refine x_aload_n (pc + 1) C d0 rfl h0 ?_
  refine x_iload (pc + 3) C d1 rfl h4 ?_
  refine x_iconst (pc + 4) C d2 rfl ?_
  refine x_iadd (pc + 5) C d3 rfl ?_
  exact x_sld q C hX hbl hE ⟨by omega, by omega, ⟨by omega, by omega⟩⟩ d4 hn k
theorem x_argb (q : Nat) (j : Int) (C : CX E p R s m args meth c cc nL own mc ms ret) (hX : va_X bS LS xs s s.heap) (hbl : bS < s.heap.size) (hE : s.heap.size ≤ E.2.2.1) (hi : 0 ≤ i ∧ i + 8 ≤ LS ∧ LS ≤ 4096) (hj : (0 ≤ j ∧ j ≤ 7) ∧ (Int8.ofInt j).toInt32 = i32 j) (d0 : decode cc pc = .ok (.aload_n 0, 1)) (d1 : decode cc (pc + 1) = .ok (.iload 4, 2)) (d2 : decode cc (pc + 3) = .ok (.bipush j, 2)) (d3 : decode cc (pc + 5) = .ok (.iadd, 1)) (d4 : decode cc (pc + 6) = .ok (.iaload, 1)) (hn : pc + 7 = q) (h0 : L[0]? = some (some (.ref bS))) (h4 : L[4]? = some (some (.int (i32 i))))
    (k : XW E p l e R s m args below meth c nL mc ms Q G kc ks q L (.int (i32 (lwX xs i j)) :: st)) : XW E p l e R s m args below meth c nL mc ms Q G kc ks pc L st := by
  refine x_aload_n (pc + 1) C d0 rfl h0 ?_
  refine x_iload (pc + 3) C d1 rfl h4 ?_
  refine x_bipush (pc + 5) C d2 rfl hj.2 ?_
  refine x_iadd (pc + 6) C d3 rfl ?_
  exact x_sld q C hX hbl hE ⟨by omega, by omega, ⟨by omega, by omega⟩⟩ d4 hn k
theorem x_flag (q : Nat) {v : Int} (C : CX E p R s m args meth c cc nL own mc ms ret) (d0 : decode cc pc = .ok (.ifCond .eq 7, 3)) (d1 : decode cc (pc + 3) = .ok (.iconst 1, 1)) (d2 : decode cc (pc + 4) = .ok (.goto 4, 3)) (d3 : decode cc (pc + 7) = .ok (.iconst 0, 1)) (hn : pc + 8 = q) (hv : InR v)
    (k : XW E p l e R s m args below meth c nL mc ms Q G kc ks q L (.int (i32 (lwF v)) :: st)) : XW E p l e R s m args below meth c nL mc ms Q G kc ks pc L (.int (i32 v) :: st) := by
  refine x_if_eq (pc + 3) (pc + 7) C d0 rfl (by omega) hv (fun h => ?_) (fun h => ?_)
  · refine x_iconst q C d3 hn ?_
    unfold lwF at k
    rw [if_pos h] at k
    exact k
  · refine x_iconst (pc + 4) C d1 rfl ?_
    refine x_goto q C d2 (by omega) ?_
    unfold lwF at k
    rw [if_neg h] at k
    exact k
end LAWR
section LAWT
variable {E : EV} {p : Program} {l : Launch} {e : Env} {R : Room} {s : State} {m : MethodId} {args : Array Value} {below : List Frame} {meth : Method} {c : Code} {mc ms : Nat} {ret : Option FieldType} {Q : State → Prop} {G0 : GT} {R' : RT} {kc ks pc : Nat} {a0 a1 a4 : Option Value} {o out : Nat} {code val : Int}
/-- both answered the same -/
theorem x_tail (C : CX E p R s m args meth c cL_law 7 RL mc ms ret) (hRm : 12 ≤ R.frames ∧ 400 ≤ R.locals) (hM : RM G0 o) (hK : gK G0 out = 26) (h71 : R' 71 0 = code) (hc : InR code) (hv : InR val) (hA : code = 0 → gA G0 out 0 = val)
    (d0 : decode cL_law pc = .ok (.aload_n 2, 1)) (d1 : decode cL_law (pc + 1) = .ok (.invokevirtual 90, 3)) (d2 : decode cL_law (pc + 4) = .ok (.iload 5, 2)) (d3 : decode cL_law (pc + 6) = .ok (.if_icmp .eq 5, 3)) (d4 : decode cL_law (pc + 11) = .ok (.iload 5, 2)) (d5 : decode cL_law (pc + 13) = .ok (.ifCond .ne 15, 3)) (d6 : decode cL_law (pc + 16) = .ok (.aload_n 3, 1)) (d7 : decode cL_law (pc + 17) = .ok (.iconst 0, 1)) (d8 : decode cL_law (pc + 18) = .ok (.laload, 1)) (d9 : decode cL_law (pc + 19) = .ok (.iload 6, 2)) (da : decode cL_law (pc + 21) = .ok (.i2l, 1)) (db : decode cL_law (pc + 22) = .ok (.lcmp, 1)) (dc : decode cL_law (pc + 23) = .ok (.ifCond .eq 5, 3)) {off : Int} (dd : decode cL_law (pc + 28) = .ok (.goto off, 3)) (ht : (pc : Int) + 28 + off = 1519)
    (k : XW E p l e R s m args below meth c 7 mc ms Q (wR G0 R') kc ks 1519 [a0, a1, some (.ref o), some (.ref out), a4, some (.int (i32 code)), some (.int (i32 val))] []) : XW E p l e R s m args below meth c 7 mc ms Q (wR G0 R') kc ks pc [a0, a1, some (.ref o), some (.ref out), a4, some (.int (i32 code)), some (.int (i32 val))] [] := by
  have fin : XW E p l e R s m args below meth c 7 mc ms Q (wR G0 R') kc ks (pc + 28) [a0, a1, some (.ref o), some (.ref out), a4, some (.int (i32 code)), some (.int (i32 val))] [] := x_goto 1519 C dd (by omega) k
  refine x_aload_n (pc + 1) C d0 rfl rfl ?_
  refine x_Vr (As := []) (pc + 4) C vw_L_90 iw_X12_thrown sw_X12_thrown (c_X12_thrown hM) d1 rfl rfl rfl rfl rfl rfl hM.1 ⟨by omega, by omega⟩ (Nat.le_of_ble_eq_true rfl) ?_
  refine x_iload (pc + 6) C d2 rfl rfl ?_
  refine x_icmp_eq (pc + 9) (pc + 11) C d3 rfl (by omega) (by rw [h71]; exact hc) hc (fun _ => ?_) (fun h => absurd h71 h)
  refine x_iload (pc + 13) C d4 rfl rfl ?_
  refine x_if_ne (pc + 16) (pc + 28) C d5 rfl (by omega) hc (fun _ => fin) (fun h => ?_)
  refine x_aload_n (pc + 17) C d6 rfl rfl ?_
  refine x_iconst (pc + 18) C d7 rfl ?_
  refine x_lald1 (pc + 19) C (show gK (wR G0 R') out = 26 from hK) d8 rfl ?_
  rw [show gA (wR G0 R') out 0 = val from hA h]
  refine x_iload (pc + 21) C d9 rfl rfl ?_
  refine x_i2l (pc + 22) C hv da rfl ?_
  refine x_lcmp (pc + 23) C hv hv db rfl ?_
  rw [if_neg (Int.lt_irrefl _), if_pos rfl]
  exact x_if_eq (pc + 26) (pc + 28) C dc rfl (by omega) InR_0 (fun _ => fin) (fun h => absurd rfl h)
/-- both said the same flag -/
theorem x_tailb (C : CX E p R s m args meth c cL_law 7 RL mc ms ret) (hRm : 12 ≤ R.frames ∧ 400 ≤ R.locals) (hM : RM G0 o) (hK : gK G0 out = 26) (h71 : R' 71 0 = code) (hc : InR code) (hv : val = 0 ∨ val = 1) (hA : code = 0 → gA G0 out 0 = val)
    (d0 : decode cL_law pc = .ok (.aload_n 2, 1)) (d1 : decode cL_law (pc + 1) = .ok (.invokevirtual 90, 3)) (d2 : decode cL_law (pc + 4) = .ok (.iload 5, 2)) (d3 : decode cL_law (pc + 6) = .ok (.if_icmp .eq 5, 3)) (d4 : decode cL_law (pc + 11) = .ok (.iload 5, 2)) (d5 : decode cL_law (pc + 13) = .ok (.ifCond .ne 22, 3)) (d6 : decode cL_law (pc + 16) = .ok (.aload_n 3, 1)) (d7 : decode cL_law (pc + 17) = .ok (.iconst 0, 1)) (d8 : decode cL_law (pc + 18) = .ok (.laload, 1)) (d9 : decode cL_law (pc + 19) = .ok (.iload 6, 2)) (da : decode cL_law (pc + 21) = .ok (.ifCond .eq 7, 3)) (db : decode cL_law (pc + 24) = .ok (.lconst 1, 1)) (dc : decode cL_law (pc + 25) = .ok (.goto 4, 3)) (de : decode cL_law (pc + 28) = .ok (.lconst 0, 1)) (df : decode cL_law (pc + 29) = .ok (.lcmp, 1)) (dg : decode cL_law (pc + 30) = .ok (.ifCond .eq 5, 3)) {off : Int} (dd : decode cL_law (pc + 35) = .ok (.goto off, 3)) (ht : (pc : Int) + 35 + off = 1519)
    (k : XW E p l e R s m args below meth c 7 mc ms Q (wR G0 R') kc ks 1519 [a0, a1, some (.ref o), some (.ref out), a4, some (.int (i32 code)), some (.int (i32 val))] []) : XW E p l e R s m args below meth c 7 mc ms Q (wR G0 R') kc ks pc [a0, a1, some (.ref o), some (.ref out), a4, some (.int (i32 code)), some (.int (i32 val))] [] := by
  have fin : XW E p l e R s m args below meth c 7 mc ms Q (wR G0 R') kc ks (pc + 35) [a0, a1, some (.ref o), some (.ref out), a4, some (.int (i32 code)), some (.int (i32 val))] [] := x_goto 1519 C dd (by omega) k
  have hvr : InR val := by rcases hv with h | h <;> rw [h] <;> exact ⟨by decide, by decide⟩
  refine x_aload_n (pc + 1) C d0 rfl rfl ?_
  refine x_Vr (As := []) (pc + 4) C vw_L_90 iw_X12_thrown sw_X12_thrown (c_X12_thrown hM) d1 rfl rfl rfl rfl rfl rfl hM.1 ⟨by omega, by omega⟩ (Nat.le_of_ble_eq_true rfl) ?_
  refine x_iload (pc + 6) C d2 rfl rfl ?_
  refine x_icmp_eq (pc + 9) (pc + 11) C d3 rfl (by omega) (by rw [h71]; exact hc) hc (fun _ => ?_) (fun h => absurd h71 h)
  refine x_iload (pc + 13) C d4 rfl rfl ?_
  refine x_if_ne (pc + 16) (pc + 35) C d5 rfl (by omega) hc (fun _ => fin) (fun h => ?_)
  refine x_aload_n (pc + 17) C d6 rfl rfl ?_
  refine x_iconst (pc + 18) C d7 rfl ?_
  refine x_lald1 (pc + 19) C (show gK (wR G0 R') out = 26 from hK) d8 rfl ?_
  rw [show gA (wR G0 R') out 0 = val from hA h]
  refine x_iload (pc + 21) C d9 rfl rfl ?_
  have jn : XW E p l e R s m args below meth c 7 mc ms Q (wR G0 R') kc ks (pc + 29) [a0, a1, some (.ref o), some (.ref out), a4, some (.int (i32 code)), some (.int (i32 val))] [.long (Int64.ofInt val), .long (Int64.ofInt val)] := by
    refine x_lcmp (pc + 30) C hvr hvr df rfl ?_
    rw [if_neg (Int.lt_irrefl _), if_pos rfl]
    exact x_if_eq (pc + 33) (pc + 35) C dg rfl (by omega) InR_0 (fun _ => fin) (fun h => absurd rfl h)
  refine x_if_eq (pc + 24) (pc + 28) C da rfl (by omega) hvr (fun h => ?_) (fun h => ?_)
  · subst h
    exact x_lconst0 (pc + 29) C de rfl jn
  · have h1 : val = 1 := by omega
    subst h1
    refine x_lconst1 (pc + 25) C db rfl ?_
    exact x_goto (pc + 29) C dc (by omega) jn
/-- both let it, or refused it, alike -/
theorem x_tailv {a6 : Option Value} (C : CX E p R s m args meth c cL_law 7 RL mc ms ret) (hRm : 12 ≤ R.frames ∧ 400 ≤ R.locals) (hM : RM G0 o) (h71 : R' 71 0 = code) (hc : InR code)
    (d0 : decode cL_law pc = .ok (.aload_n 2, 1)) (d1 : decode cL_law (pc + 1) = .ok (.invokevirtual 90, 3)) (d2 : decode cL_law (pc + 4) = .ok (.iload 5, 2)) (d3 : decode cL_law (pc + 6) = .ok (.if_icmp .eq 5, 3)) {off : Int} (dd : decode cL_law (pc + 11) = .ok (.goto off, 3)) (ht : (pc : Int) + 11 + off = 1519)
    (k : XW E p l e R s m args below meth c 7 mc ms Q (wR G0 R') kc ks 1519 [a0, a1, some (.ref o), some (.ref out), a4, some (.int (i32 code)), a6] []) : XW E p l e R s m args below meth c 7 mc ms Q (wR G0 R') kc ks pc [a0, a1, some (.ref o), some (.ref out), a4, some (.int (i32 code)), a6] [] := by
  refine x_aload_n (pc + 1) C d0 rfl rfl ?_
  refine x_Vr (As := []) (pc + 4) C vw_L_90 iw_X12_thrown sw_X12_thrown (c_X12_thrown hM) d1 rfl rfl rfl rfl rfl rfl hM.1 ⟨by omega, by omega⟩ (Nat.le_of_ble_eq_true rfl) ?_
  refine x_iload (pc + 6) C d2 rfl rfl ?_
  refine x_icmp_eq (pc + 9) (pc + 11) C d3 rfl (by omega) (by rw [h71]; exact hc) hc (fun _ => ?_) (fun h => absurd h71 h)
  exact x_goto 1519 C dd (by omega) k
end LAWT
