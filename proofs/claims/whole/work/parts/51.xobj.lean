/-! calls of lists and texts; casts; new things; rows of ten ints -/
section XOB
variable {E : EV} {p : Program} {l : Launch} {e : Env} {R : Room} {s : State} {m : MethodId} {args : Array Value} {below : List Frame} {meth : Method} {c : Code} {cc : ByteArray} {nL mc ms : Nat} {own : String} {ret : Option FieldType} {Q : State → Prop} {G : GT} {kc ks pc : Nat} {L : List (Option Value)} {st st0 : List Value}
variable {y : MethodName} {cc1 : ByteArray} {nL1 : Nat} {ret1 : Option FieldType} {fr1 lo1 mc1 ms1 idx b : Nat} {As : List Value} {post : Option Value → GT → Prop}
def lkd (G : GT) (ci b : Nat) : Prop := (ci = 0 ∧ gK G b = 22) ∨ (ci = 1 ∧ gK G b = 24) ∨ (ci = 2 ∧ gK G b = 20)
theorem w_recvL {ci : Nat} {Cn : String} {Tn : u_T} {N : Nat} {H : Heap} (C : CX E p R s m args meth c cc nL own mc ms ret) (h1 : hp E G H) (hk : lkd G ci b) (hc : CL[ci]? = some (Cn, Tn, N)) : ∃ cell : Cell, H[b]? = some cell ∧ cell.vm.isStatics = false ∧ s.vm.findClass Cn = some cell.cls := by
  obtain ⟨f, ow, g1, g2, g3, g4⟩ := h1
  have : ∃ fs, f b = some (.inr (ci, fs)) := by
    rcases hk with ⟨rfl, hk⟩ | ⟨rfl, hk⟩ | ⟨rfl, hk⟩
    · obtain ⟨d, h1, h2, e1, -⟩ := (g3 b).2.1 hk
      exact ⟨_, e1⟩
    · obtain ⟨d, n, g, e1, -⟩ := (g3 b).2.2 hk
      exact ⟨_, e1⟩
    · obtain ⟨m, d, e1, -⟩ := (g3 b).1 hk
      exact ⟨_, e1⟩
  obtain ⟨fs, hv⟩ := this
  exact va_recv (ws := [(b, .inr (ci, fs))]) C.2.2.2.2.2.1 (fun k q hq => by
    cases k with
    | zero => cases hq; exact (g1 b _ hv).1
    | succ k => simp at hq) (q0 := 0) hc rfl
/-- invokevirtual of a method of a list, a builder or a text -/
theorem x_callL (n0 ci kc' ks' : Nat) {n : Nat} {Cn : String} {Tn : u_T} {N : Nat} (C : CX E p R s m args meth c cc nL own mc ms ret) (hV : VW own idx y cc1 nL1 ret1 n) (hi : Cond.instanceMethod y ∈ AW) (hs : Cond.selects y.cls y y ∈ AW) (hM : MT E l y cc1 nL1 ret1 fr1 lo1 mc1 ms1 (.ref b :: As) G post) (d : decode cc pc = .ok (.invokevirtual idx, 3)) (hn : pc + 3 = n0)
    (hst : As.reverse ++ .ref b :: st = st0) (hlen : As.length = n) (hc : CL[ci]? = some (Cn, Tn, N)) (hy : y.cls = Cn) (hk : lkd G ci b) (hR : fr1 + 1 ≤ R.frames ∧ 8 + (nL1 + 11) + lo1 ≤ R.locals) (hw : (st.map fun v => v.category).sum ≤ 8) (hkc : kc' + mc1 ≤ kc ∧ ks' + ms1 ≤ ks)
    (kk : ∀ (v : Option Value) (G' : GT), post v G' → XW E p l e R s m args below meth c nL mc ms Q G' kc' ks' n0 L (v.toList ++ st)) : XW E p l e R s m args below meth c nL mc ms Q G kc ks pc L st0 := by
  subst hn
  subst hst
  intro H locs cells slots ls h1 h2 h3' h4 h5
  have hts := C.2.2.2.2.1
  have hrc := w_recvL C h1 hk hc
  have hf : cells + mc1 ≤ R.cells ∧ slots + ms1 ≤ R.slots := ⟨Nat.le_trans (by omega) C.2.2.2.2.2.2.2.2.1.1, Nat.le_trans (by omega) C.2.2.2.2.2.2.2.2.1.2⟩
  have hp : PreV s H Cn b (PC E (.ref b :: As) G) As := ⟨wd_blind, hrc, fun U hU hW => ⟨rfl, wd_of C h1 h2 hU hW⟩⟩
  have go : va_Run p l e R s m args below meth c H locs cells slots mc1 ms1 (F0 m pc ls (As.reverse ++ .ref b :: st)) st (QC E post (Value.ref b :: As).toArray) (bA E) := by
    rcases id hV.2 with hl | ⟨host, hl⟩
    · exact va_runV (Ts := AW) ⟨C.1, C.2.1, C.2.2.1, C.2.2.2.1, hts⟩ hM ⟨w_callB C hV hR hl, hts _ hi, by rw [← hy]; exact hts _ hs⟩ hp rfl hlen h3'.1 rfl (lv_room hw) d hf
    · exact va_runVN (Ts := AW) ⟨C.1, C.2.1, C.2.2.1, C.2.2.2.1, hts⟩ hM ⟨w_callN C hV hR hl, hts _ hi, by rw [← hy]; exact hts _ hs⟩ hp rfl hlen h3'.1 rfl (lv_room hw) d hf
  exact w_call go h2 C.2.2.2.2.2.2.2.1 (fun v G' H1 locs1 a1 a2 a3 => kk v G' a3 H1 locs1 _ _ ls a1 a2 h3' (by omega) (by omega))
theorem x_cast (n : Nat) {a ci : Nat} {Cn : String} {Tn : u_T} {N : Nat} (C : CX E p R s m args meth c cc nL own mc ms ret) (hl : Cond.classLink own idx Cn ∈ AW) (hc : CL[ci]? = some (Cn, Tn, N)) (h3 : (Nat.ble 3 ci && Nat.ble ci 15) = true) (hk : gK G a = ci) (d : decode cc pc = .ok (.checkcast idx, 3)) (hn : pc + 3 = n)
    (k : XW E p l e R s m args below meth c nL mc ms Q G kc ks n L (.ref a :: st)) : XW E p l e R s m args below meth c nL mc ms Q G kc ks pc L (.ref a :: st) := by
  subst hn
  intro H locs cells slots ls h1 h2 h3' h4 h5
  simp only [Bool.and_eq_true] at h3
  exact va_castE C.1 C.2.1 C.2.2.2.1 (C.2.2.2.2.1 _ hl) (w_recv C h1 hk ⟨Nat.le_of_ble_eq_true h3.1, Nat.le_of_ble_eq_true h3.2⟩ hc) d (k H locs cells slots ls h1 h2 h3' h4 h5)
/-- new objects -/
theorem x_new (n ci : Nat) {N kc0 ks0 : Nat} {Cn : String} {fs : List Value} (C : CX E p R s m args meth c cc nL own mc ms ret) (F : NWd own idx ci Cn N fs) (h3 : (Nat.ble 3 ci && Nat.ble ci 14) = true) (hfs : (List.range (NF ci)).map (fun j => if isR (100 * ci + j) then .null else .int 0) = fs) (d : decode cc pc = .ok (.new idx, 3)) (hn : pc + 3 = n) (hk : kc0 + 1 ≤ kc ∧ ks0 + N ≤ ks)
    (k : ∀ q, gK G q = 0 → XW E p l e R s m args below meth c nL mc ms Q (nO G q ci) kc0 ks0 n L (.ref q :: st)) : XW E p l e R s m args below meth c nL mc ms Q G kc ks pc L st := by
  subst hfs
  simp only [Bool.and_eq_true] at h3
  exact x_raw (fun f ow h => y_new n C F d hn hk (fun q hq => y_back (pic_newO h hq ⟨Nat.le_of_ble_eq_true h3.1, Nat.le_of_ble_eq_true h3.2⟩) (k q (pic_fresh h hq))))
theorem x_newL (n : Nat) {idx2 kc0 ks0 : Nat} (C : CX E p R s m args meth c cc nL own mc ms ret) (F : NWd own idx 2 RJx4a65c 3 [.int 0, .null, .int 0]) (hV : VW own idx2 yJx4a65c_init_da8c8 cJx4a65c_init_da8c8 1 none 0) (hi : Cond.instanceMethod yJx4a65c_init_da8c8 ∈ AW) (d : decode cc pc = .ok (.new idx, 3)) (d3 : decode cc (pc + 3) = .ok (.dup, 1)) (d4 : decode cc (pc + 4) = .ok (.invokespecial idx2, 3)) (hn : pc + 7 = n)
    (hR : 3 + 1 ≤ R.frames ∧ 8 + (1 + 11) + 52 ≤ R.locals) (hw : (st.map fun v => v.category).sum ≤ 7) (hk : kc0 + 1 ≤ kc ∧ ks0 + 3 ≤ ks)
    (k : ∀ q, gK G q = 0 → XW E p l e R s m args below meth c nL mc ms Q (sL (sK G q 20) q []) kc0 ks0 n L (.ref q :: st)) : XW E p l e R s m args below meth c nL mc ms Q G kc ks pc L st := by
  subst hn
  refine x_raw (fun f ow h => y_new (pc + 3) C F d rfl hk (fun q hq => ?_))
  refine y_dup (pc + 4) C d3 rfl rfl ?_
  refine y_callI (As := []) (pc + 7) kc0 ks0 C hV hi rfl (j_Jx4a65c_init_da8c8 up_s) d4 rfl rfl rfl hR ?_ ⟨Nat.le_refl _, Nat.le_refl _⟩ (fun v f' hq' => ?_)
  · rw [List.map_cons, List.sum_cons]
    show 1 + _ ≤ 8
    omega
  · obtain ⟨rfl, rfl⟩ := hq'
    rw [up_up]
    exact y_back (pic_newL h hq) (k q (pic_fresh h hq))
theorem x_newB (n : Nat) {idx2 kc0 ks0 : Nat} (C : CX E p R s m args meth c cc nL own mc ms ret) (F : NWd own idx 1 RJ4 4 [.null, .int 0, .int 0, .int 0]) (hV : VW own idx2 yJ4_init_da8c8 cJ4_init_da8c8 1 none 0) (hi : Cond.instanceMethod yJ4_init_da8c8 ∈ AW) (d : decode cc pc = .ok (.new idx, 3)) (d3 : decode cc (pc + 3) = .ok (.dup, 1)) (d4 : decode cc (pc + 4) = .ok (.invokespecial idx2, 3)) (hn : pc + 7 = n)
    (hR : 2 + 1 ≤ R.frames ∧ 8 + (1 + 11) + 33 ≤ R.locals) (hw : (st.map fun v => v.category).sum ≤ 7) (hk : kc0 + 2 ≤ kc ∧ ks0 + 20 ≤ ks)
    (k : ∀ q, gK G q = 0 → XW E p l e R s m args below meth c nL mc ms Q (sL (sK G q 24) q []) kc0 ks0 n L (.ref q :: st)) : XW E p l e R s m args below meth c nL mc ms Q G kc ks pc L st := by
  subst hn
  refine x_raw (fun f ow h => y_new (kc0 := kc0 + 1) (ks0 := ks0 + 16) (pc + 3) C F d rfl ⟨by omega, by omega⟩ (fun q hq => ?_))
  refine y_dup (pc + 4) C d3 rfl rfl ?_
  refine y_callI (As := []) (pc + 7) kc0 ks0 C hV hi rfl (j_J4_init_da8c8 (ms := 16) up_s (Nat.le_refl _)) d4 rfl rfl rfl hR ?_ ⟨Nat.le_refl _, Nat.le_refl _⟩ (fun v f' hq' => ?_)
  · rw [List.map_cons, List.sum_cons]
    show 1 + _ ≤ 8
    omega
  · obtain ⟨rfl, q', z1, z2, z3⟩ := hq'
    have z4 : f q' = none := by rwa [up_n z2] at z1
    refine y_back (pic_newB h hq z4 z2 (fun x => ?_)) (k q (pic_fresh h hq))
    rw [z3 x]
    by_cases hx : x = q
    · rw [if_pos hx, if_pos hx]
    · rw [if_neg hx, if_neg hx, up_n hx]
/-- rows of ten ints -/
theorem x_newA (n : Nat) {kc0 ks0 : Nat} (C : CX E p R s m args meth c cc nL own mc ms ret) (hw : Cond.arrayClass .int ∈ AW) (d : decode cc pc = .ok (.newarray .int, 2)) (hn : pc + 2 = n) (hk : kc0 + 1 ≤ kc ∧ ks0 + 10 ≤ ks)
    (k : ∀ q, gK G q = 0 → XW E p l e R s m args below meth c nL mc ms Q (nA G q) kc0 ks0 n L (.ref q :: st)) : XW E p l e R s m args below meth c nL mc ms Q G kc ks pc L (.int (i32 10) :: st) := by
  subst hn
  refine x_raw (fun f ow h => ?_)
  intro H locs cells slots ls h1 h2 h3 h4 h5
  obtain ⟨ws, w1, w2, w3, w4⟩ := hf_ws h1
  have hR1 := C.2.2.2.2.2.2.2.2.1
  have hK := C.2.2.2.2.2.1
  have e10 : i32 10 = nI 10 := (i32_nI 10).symm
  rw [e10]
  refine va_newa (atype := .int) (ty := .int) (N' := 10) (a0 := (10, .inl (fun _ => 0))) C.1 C.2.1 (C.2.2.2.2.1 _ hw) rfl hK w1 w2 h2 (fun q hq => Nat.le_trans C.2.2.2.2.2.2.2.1 hq) (fun cA => vp_cell_i ..) (nI_pos (by omega)) (nI_clamp (by omega)) (by decide) (by omega) (by omega) d (fun q cA H1 p0 p1 d1 s1 => ?_)
  have hcA : cA = E.2.1 0 := by
    have e1 := (p0.2 5 (cA, .int) rfl).2
    have e2 := (hK.2 0 _ rfl).2
    exact Option.some.inj (e1.symm.trans e2)
  subst hcA
  obtain ⟨z1, z2⟩ := hf_push w3 h1.lo p1 d1
  exact k q (pic_fresh h z1) H1 locs _ _ ls (pic_hp z2 (pic_newA h z1)) s1 h3 (by omega) (by omega)
theorem ent_row10 {a : Nat} (hk : gK G a = 25) : ent E G a = some (.inl (E.2.1 0, 10, .inl (fun j => i32 (gA G a j)))) := by
  unfold ent
  rw [if_neg (by omega), if_neg (by omega), if_pos hk]
theorem x_alen10 (n : Nat) {a : Nat} (C : CX E p R s m args meth c cc nL own mc ms ret) (hk : gK G a = 25) (d : decode cc pc = .ok (.arraylength, 1)) (hn : pc + 1 = n)
    (k : XW E p l e R s m args below meth c nL mc ms Q G kc ks n L (.int (i32 10) :: st)) : XW E p l e R s m args below meth c nL mc ms Q G kc ks pc L (.ref a :: st) := by
  subst hn
  intro H locs cells slots ls h1 h2 h3 h4 h5
  have hP : va_P E.1 CL [(a, .inl (E.2.1 0, 10, .inl (fun j => i32 (gA G a j))))] H := fun k q hq => by
    cases k with
    | zero => cases hq; exact (h1.get (ent_row10 hk)).1
    | succ k => simp at hq
  exact va_alen C.1 C.2.1 C.2.2.2.2.2.1 hP 0 0 rfl rfl (i32_nI 10) d (k H locs cells slots ls h1 h2 h3 h4 h5)
theorem x_ald10 (n : Nat) {a : Nat} {x : Int} (C : CX E p R s m args meth c cc nL own mc ms ret) (hk : gK G a = 25) (hx : 0 ≤ x ∧ x < 10) (d : decode cc pc = .ok (.iaload, 1)) (hn : pc + 1 = n)
    (k : XW E p l e R s m args below meth c nL mc ms Q G kc ks n L (.int (i32 (gA G a x.toNat)) :: st)) : XW E p l e R s m args below meth c nL mc ms Q G kc ks pc L (.int (i32 x) :: .ref a :: st) := by
  subst hn
  intro H locs cells slots ls h1 h2 h3 h4 h5
  exact w_ldI C (h1.get (ent_row10 hk)).1 ⟨hx.1, by omega, by omega⟩ d (k H locs cells slots ls h1 h2 h3 h4 h5)
theorem wf_sA {a j : Nat} {v : Int} (h : wfG G) (hv : InR v) : wfG (sA G a j v) := by
  obtain ⟨w1, w2, w3, w4, w5, w6, w7⟩ := h
  refine ⟨w1, fun x i => ?_, w3, w4, w5, w6, w7⟩
  show InR (u2 (gA G) a j v x i)
  unfold u2
  split
  · exact hv
  · exact w2 x i
theorem hp_sA {H H1 : Heap} {a j : Nat} {v : Int} (h : hp E G H) (hk : gK G a = 25) (hv : InR v) (hat : va_at E.1 CL (a, .inl (E.2.1 0, 10, .inl (fun i => if i = j then i32 v else i32 (gA G a i)))) H1) (hq : ∀ q : Nat, q ≠ a → H1[q]? = H[q]?) : hp E (sA G a j v) H1 := by
  have e : (fun i => if i = j then i32 v else i32 (gA G a i)) = fun i => i32 (gA (sA G a j v) a i) := by
    funext i
    show _ = i32 (u2 (gA G) a j v a i)
    by_cases hi : i = j
    · subst hi; rw [if_pos rfl, u2_s]
    · rw [if_neg hi, u2_a hi]
  rw [e] at hat
  exact h.put (ent_row10 hk) (ent_row10 (G := sA G a j v) hk) rfl rfl (fun x hx => ent_eq rfl (fun _ => rfl) (fun _ => rfl) (fun i => u2_k (f := gA G) hx) (fun _ _ _ => rfl)) (wf_sA h.wf hv) hat hq
theorem x_ast10 (n : Nat) {a : Nat} {x v : Int} (C : CX E p R s m args meth c cc nL own mc ms ret) (hk : gK G a = 25) (hx : 0 ≤ x ∧ x < 10) (hv : InR v) (d : decode cc pc = .ok (.iastore, 1)) (hn : pc + 1 = n)
    (k : XW E p l e R s m args below meth c nL mc ms Q (sA G a x.toNat v) kc ks n L st) : XW E p l e R s m args below meth c nL mc ms Q G kc ks pc L (.int (i32 v) :: .int (i32 x) :: .ref a :: st) := by
  subst hn
  intro H locs cells slots ls h1 h2 h3 h4 h5
  have g := h1.get (ent_row10 hk)
  exact w_stI C g.1 ⟨hx.1, by omega, by omega⟩ d (fun H1 sl a1 a2 a3 => k H1 _ cells slots ls (hp_sA h1 hk hv a1 a3) (h2.put a2 a3 g.2) h3 h4 h5)
end XOB
