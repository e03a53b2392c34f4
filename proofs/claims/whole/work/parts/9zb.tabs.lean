/-! the law's start: what the statement's own words give of the machine, the classes, the constants (wip/tools/genstart.py) -/
theorem lw_i (k : Nat) {w : Cond} (h : lw_tbl[k]? = some w) : w ∈ lw_tbl := List.mem_of_getElem? h
def nvL : List Cond := flatC (Jvm.Cond.and given_1 narrow_1)
theorem nv_i (k : Nat) {w : Cond} (h : nvL[k]? = some w) : w ∈ nvL := List.mem_of_getElem? h
section START
variable {s : State} {args : Array Value}
theorem rk_sel4 {y z : MethodName} (hy : y.cls ≠ "java/lang/invoke/MethodHandle" ∧ y.cls ≠ "java/lang/invoke/VarHandle") (hyz : y.cls = z.cls) (hz : (Cond.selects "java/lang/StringBuilder" z z).before args s = true) (hpriv : (Cond.privateMethod y).before args s = true) (hinst : (Cond.instanceMethod y).before args s = true) : (Cond.selects "java/lang/StringBuilder" y y).before args s = true := by
  obtain ⟨c, r, mz, hc, hfz, hnz, hselz, mk2, hmk2, hni⟩ := Cond.selects_spec hz
  obtain ⟨mk, methM, hnamed, hmethM, -, -⟩ := Cond.instanceMethod_spec hinst
  have hfound : s.methodFound? y.cls y.name y.desc = some mk := State.methodFound?_of_named hnamed hy
  have hcls : mk.cls = mz.cls := Option.some.inj ((findClass_of_methodNamed hnamed).symm.trans (by rw [hyz]; exact findClass_of_methodNamed hnz))
  have hsel : selectMethod {} s.vm c mk = .method mk := selectMethod_private hmethM (Cond.privateMethod_at hpriv mk methM hnamed hmethM)
  simp only [Cond.before, Cond.holds, Cond.value, hc, hfound, hnamed, hsel, hcls, hmk2]
  simp
  exact hni
theorem rk_known1 (hw : ∀ w ∈ AW, w.before args s = true) {C : String} {T : u_T} {N n : Nat} (hin : ∀ w ∈ u_ws C T N, w ∈ AW) (hi : (Cond.instantiable C n).before args s = true) : ∃ z : ClassId × (Nat → Nat), u_Kn s C T N z.1 z.2 := by
  obtain ⟨a, b, h⟩ := u_known hw hin hi
  exact ⟨(a, b), h⟩
theorem rk_arr {ty : FieldType} (h : (Cond.arrayClass ty).before args s = true) : ∃ cA : ClassId, ArrOfT s cA ty ∧ s.vm.findClass ("[" ++ ty.toString) = some cA := by
  obtain ⟨c, k, comp, h1, h2, h3⟩ := Cond.arrayClass_spec h
  exact ⟨c, fun n z => ⟨(fun k h => (by cases h)), k, h2, comp, h3⟩, h1⟩
theorem rk_arrO {n : String} (h : (Cond.arrayOver (.object n)).before args s = true) : ∃ cA : ClassId, ArrOfT s cA (.object n) ∧ va_RA s cA (.object n) := by
  obtain ⟨comp, c, k, h1, h2, h3, h4, h5⟩ := Cond.arrayOver_spec h
  exact ⟨c, fun n z => ⟨(fun k h => (by cases h)), k, h3, comp, h4⟩, k, comp, h3, h4, h1, h5⟩
theorem rk_str {own tx : String} {k : Nat} (h1 : (Cond.stringRef own k tx).before args s = true) (h2 : (Cond.exactly (.string own k) "java/lang/String").before args s = true) : ∃ a : Nat, vk_R own k tx a s := by
  obtain ⟨a, c, cell, kk, q1, -⟩ := Cond.exactly_spec h2
  exact ⟨a, vk_R.of h1 q1⟩
theorem vk_S1 {len : Nat} {byt : List Int32} {adK adV : Nat → Nat} {A : Nat → Prop} {H : Heap} (h : vk_S 1 [len] [byt] adK adV A s H) : vk_S 1 [len] [byt] (fun _ => adK 0) (fun _ => adV 0) A s H := ⟨fun i hi => by
  have e : i = 0 := by omega
  subst e
  exact h.1 0 (by decide), fun i j hi hj _ => by omega⟩
theorem rk_AW (hts : ∀ w ∈ lw_tbl, w.before args s = true) : ∀ w ∈ AW, w.before args s = true := by
  intro w hw
  have h1 := (List.mem_filter.mp hw).1
  rcases List.mem_append.mp h1 with h | h
  · exact hts w h
  · obtain ⟨y, hy, rfl⟩ := List.mem_map.mp h
    have hz := (show (Cond.selects "java/lang/StringBuilder" ⟨"java/lang/AbstractStringBuilder", "isLatin1", "()Z"⟩ ⟨"java/lang/AbstractStringBuilder", "isLatin1", "()Z"⟩).before args s = true from (hts _ (lw_i 577 (by decide +kernel))))
    simp only [List.mem_cons, List.not_mem_nil, or_false] at hy
    rcases hy with rfl | rfl | rfl | rfl
    · exact rk_sel4 (z := ⟨"java/lang/AbstractStringBuilder", "isLatin1", "()Z"⟩) ⟨by decide +kernel, by decide +kernel⟩ rfl hz (hts _ (lw_i 555 (by decide +kernel))) (hts _ (lw_i 556 (by decide +kernel)))
    · exact rk_sel4 (z := ⟨"java/lang/AbstractStringBuilder", "isLatin1", "()Z"⟩) ⟨by decide +kernel, by decide +kernel⟩ rfl hz (hts _ (lw_i 559 (by decide +kernel))) (hts _ (lw_i 560 (by decide +kernel)))
    · exact rk_sel4 (z := ⟨"java/lang/AbstractStringBuilder", "isLatin1", "()Z"⟩) ⟨by decide +kernel, by decide +kernel⟩ rfl hz (hts _ (lw_i 615 (by decide +kernel))) (hts _ (lw_i 616 (by decide +kernel)))
    · exact rk_sel4 (z := ⟨"java/lang/AbstractStringBuilder", "isLatin1", "()Z"⟩) ⟨by decide +kernel, by decide +kernel⟩ rfl hz (hts _ (lw_i 619 (by decide +kernel))) (hts _ (lw_i 620 (by decide +kernel)))
theorem rk_NW (hts : ∀ w ∈ lw_tbl, w.before args s = true) : ∀ w ∈ NW, va_Nw w s := fun w hw => va_Nw.of (nw_on hw) (hts w (List.mem_filter.mp hw).1)
theorem rk_known (hts : ∀ w ∈ lw_tbl, w.before args s = true) : ∃ D : va_G, ∀ (c : Nat) (q : vw_C), CL[c]? = some q → u_Kn s q.1 q.2.1 q.2.2 (D.1 c) (D.2 c) := by
  have hw := rk_AW hts
  have h : ∀ c : Nat, ∃ z : ClassId × (Nat → Nat), ∀ q : vw_C, CL[c]? = some q → u_Kn s q.1 q.2.1 q.2.2 z.1 z.2 := by
    intro c
    match c with
    | 0 => obtain ⟨z, hz⟩ := rk_known1 hw cw_0 (show (Cond.instantiable RJ0 4).before args s = true from (hts _ (lw_i 703 (by decide +kernel)))); exact ⟨z, fun q hq => by cases Option.some.inj (show some (RJ0, TJ0, 4) = some q from hq); exact hz⟩
    | 1 => obtain ⟨z, hz⟩ := rk_known1 hw cw_1 (show (Cond.instantiable RJ4 4).before args s = true from (hts _ (lw_i 511 (by decide +kernel)))); exact ⟨z, fun q hq => by cases Option.some.inj (show some (RJ4, TJ4, 4) = some q from hq); exact hz⟩
    | 2 => obtain ⟨z, hz⟩ := rk_known1 hw cw_2 (show (Cond.instantiable RJx4a65c 3).before args s = true from (hts _ (lw_i 134 (by decide +kernel)))); exact ⟨z, fun q hq => by cases Option.some.inj (show some (RJx4a65c, TJx4a65c, 3) = some q from hq); exact hz⟩
    | 3 => obtain ⟨z, hz⟩ := rk_known1 hw cw_3 (show (Cond.instantiable RX0 13).before args s = true from (hts _ (lw_i 502 (by decide +kernel)))); exact ⟨z, fun q hq => by cases Option.some.inj (show some (RX0, TX0, 13) = some q from hq); exact hz⟩
    | 4 => obtain ⟨z, hz⟩ := rk_known1 hw cw_4 (show (Cond.instantiable RX1 4).before args s = true from (hts _ (lw_i 1177 (by decide +kernel)))); exact ⟨z, fun q hq => by cases Option.some.inj (show some (RX1, TX1, 4) = some q from hq); exact hz⟩
    | 5 => obtain ⟨z, hz⟩ := rk_known1 hw cw_5 (show (Cond.instantiable RX2 6).before args s = true from (hts _ (lw_i 1236 (by decide +kernel)))); exact ⟨z, fun q hq => by cases Option.some.inj (show some (RX2, TX2, 6) = some q from hq); exact hz⟩
    | 6 => obtain ⟨z, hz⟩ := rk_known1 hw cw_6 (show (Cond.instantiable RX3 6).before args s = true from (hts _ (lw_i 899 (by decide +kernel)))); exact ⟨z, fun q hq => by cases Option.some.inj (show some (RX3, TX3, 6) = some q from hq); exact hz⟩
    | 7 => obtain ⟨z, hz⟩ := rk_known1 hw cw_7 (show (Cond.instantiable RX4 12).before args s = true from (hts _ (lw_i 1044 (by decide +kernel)))); exact ⟨z, fun q hq => by cases Option.some.inj (show some (RX4, TX4, 12) = some q from hq); exact hz⟩
    | 8 => obtain ⟨z, hz⟩ := rk_known1 hw cw_8 (show (Cond.instantiable RX5 5).before args s = true from (hts _ (lw_i 368 (by decide +kernel)))); exact ⟨z, fun q hq => by cases Option.some.inj (show some (RX5, TX5, 5) = some q from hq); exact hz⟩
    | 9 => obtain ⟨z, hz⟩ := rk_known1 hw cw_9 (show (Cond.instantiable RX6 2).before args s = true from (hts _ (lw_i 160 (by decide +kernel)))); exact ⟨z, fun q hq => by cases Option.some.inj (show some (RX6, TX6, 2) = some q from hq); exact hz⟩
    | 10 => obtain ⟨z, hz⟩ := rk_known1 hw cw_10 (show (Cond.instantiable RX7 3).before args s = true from (hts _ (lw_i 946 (by decide +kernel)))); exact ⟨z, fun q hq => by cases Option.some.inj (show some (RX7, TX7, 3) = some q from hq); exact hz⟩
    | 11 => obtain ⟨z, hz⟩ := rk_known1 hw cw_11 (show (Cond.instantiable RX8 2).before args s = true from (hts _ (lw_i 176 (by decide +kernel)))); exact ⟨z, fun q hq => by cases Option.some.inj (show some (RX8, TX8, 2) = some q from hq); exact hz⟩
    | 12 => obtain ⟨z, hz⟩ := rk_known1 hw cw_12 (show (Cond.instantiable RX9 6).before args s = true from (hts _ (lw_i 1121 (by decide +kernel)))); exact ⟨z, fun q hq => by cases Option.some.inj (show some (RX9, TX9, 6) = some q from hq); exact hz⟩
    | 13 => obtain ⟨z, hz⟩ := rk_known1 hw cw_13 (show (Cond.instantiable RX10 8).before args s = true from (hts _ (lw_i 976 (by decide +kernel)))); exact ⟨z, fun q hq => by cases Option.some.inj (show some (RX10, TX10, 8) = some q from hq); exact hz⟩
    | 14 => obtain ⟨z, hz⟩ := rk_known1 hw cw_14 (show (Cond.instantiable RX11 10).before args s = true from (hts _ (lw_i 126 (by decide +kernel)))); exact ⟨z, fun q hq => by cases Option.some.inj (show some (RX11, TX11, 10) = some q from hq); exact hz⟩
    | 15 => obtain ⟨z, hz⟩ := rk_known1 hw cw_15 (show (Cond.instantiable RX12 72).before args s = true from (hts _ (lw_i 1438 (by decide +kernel)))); exact ⟨z, fun q hq => by cases Option.some.inj (show some (RX12, TX12, 72) = some q from hq); exact hz⟩
    | c + 16 => exact ⟨(0, fun _ => 0), fun q hq => by simp [CL] at hq⟩
  exact ⟨(fun c => (Classical.choose (h c)).1, fun c => (Classical.choose (h c)).2), fun c q hq => Classical.choose_spec (h c) q hq⟩
theorem rk_stx (hts : ∀ w ∈ lw_tbl, w.before args s = true) (hv : ∀ w ∈ nvL, w.before args s = true) : ∀ q ∈ stx, ∃ a : Nat, vk_R q.1 q.2.1 q.2.2 a s := by
  exact (List.forall_mem_cons.mpr ⟨rk_str (hts _ (lw_i 341 (by decide +kernel))) (hv _ (nv_i 292 (by decide +kernel))), (List.forall_mem_cons.mpr ⟨rk_str (hts _ (lw_i 361 (by decide +kernel))) (hv _ (nv_i 309 (by decide +kernel))), (List.forall_mem_cons.mpr ⟨rk_str (hts _ (lw_i 491 (by decide +kernel))) (hv _ (nv_i 334 (by decide +kernel))), (List.forall_mem_cons.mpr ⟨rk_str (hts _ (lw_i 840 (by decide +kernel))) (hv _ (nv_i 443 (by decide +kernel))), (List.forall_mem_cons.mpr ⟨rk_str (hts _ (lw_i 844 (by decide +kernel))) (hv _ (nv_i 464 (by decide +kernel))), (List.forall_mem_cons.mpr ⟨rk_str (hts _ (lw_i 853 (by decide +kernel))) (hv _ (nv_i 485 (by decide +kernel))), (List.forall_mem_cons.mpr ⟨rk_str (hts _ (lw_i 290 (by decide +kernel))) (hv _ (nv_i 276 (by decide +kernel))), (List.forall_mem_cons.mpr ⟨rk_str (hts _ (lw_i 836 (by decide +kernel))) (hv _ (nv_i 424 (by decide +kernel))), (List.forall_mem_cons.mpr ⟨rk_str (hts _ (lw_i 501 (by decide +kernel))) (hv _ (nv_i 366 (by decide +kernel))), (List.forall_mem_cons.mpr ⟨rk_str (hts _ (lw_i 876 (by decide +kernel))) (hv _ (nv_i 506 (by decide +kernel))), (List.forall_mem_cons.mpr ⟨rk_str (hts _ (lw_i 888 (by decide +kernel))) (hv _ (nv_i 524 (by decide +kernel))), (List.forall_mem_cons.mpr ⟨rk_str (hts _ (lw_i 896 (by decide +kernel))) (hv _ (nv_i 549 (by decide +kernel))), (List.forall_mem_cons.mpr ⟨rk_str (hts _ (lw_i 897 (by decide +kernel))) (hv _ (nv_i 580 (by decide +kernel))), (List.forall_mem_cons.mpr ⟨rk_str (hts _ (lw_i 944 (by decide +kernel))) (hv _ (nv_i 620 (by decide +kernel))), (List.forall_mem_cons.mpr ⟨rk_str (hts _ (lw_i 945 (by decide +kernel))) (hv _ (nv_i 638 (by decide +kernel))), (List.forall_mem_cons.mpr ⟨rk_str (hts _ (lw_i 972 (by decide +kernel))) (hv _ (nv_i 663 (by decide +kernel))), (List.forall_mem_cons.mpr ⟨rk_str (hts _ (lw_i 973 (by decide +kernel))) (hv _ (nv_i 702 (by decide +kernel))), (List.forall_mem_cons.mpr ⟨rk_str (hts _ (lw_i 974 (by decide +kernel))) (hv _ (nv_i 747 (by decide +kernel))), (List.forall_mem_cons.mpr ⟨rk_str (hts _ (lw_i 1364 (by decide +kernel))) (hv _ (nv_i 783 (by decide +kernel))), (List.forall_mem_cons.mpr ⟨rk_str (hts _ (lw_i 942 (by decide +kernel))) (hv _ (nv_i 604 (by decide +kernel))), (List.forall_mem_cons.mpr ⟨rk_str (hts _ (lw_i 1409 (by decide +kernel))) (hv _ (nv_i 834 (by decide +kernel))), (List.forall_mem_cons.mpr ⟨rk_str (hts _ (lw_i 1424 (by decide +kernel))) (hv _ (nv_i 851 (by decide +kernel))), (List.forall_mem_cons.mpr ⟨rk_str (hts _ (lw_i 1436 (by decide +kernel))) (hv _ (nv_i 869 (by decide +kernel))), (List.forall_mem_cons.mpr ⟨rk_str (hts _ (lw_i 1389 (by decide +kernel))) (hv _ (nv_i 800 (by decide +kernel))), (List.forall_mem_cons.mpr ⟨rk_str (hts _ (lw_i 1401 (by decide +kernel))) (hv _ (nv_i 819 (by decide +kernel))), (List.forall_mem_cons.mpr ⟨rk_str (hts _ (lw_i 541 (by decide +kernel))) (hv _ (nv_i 394 (by decide +kernel))), (List.forall_mem_cons.mpr ⟨rk_str (hts _ (lw_i 542 (by decide +kernel))) (hv _ (nv_i 406 (by decide +kernel))), (List.forall_mem_cons.mpr ⟨rk_str (hts _ (lw_i 738 (by decide +kernel))) (hv _ (nv_i 417 (by decide +kernel))), (fun _ h => absurd h List.not_mem_nil)⟩)⟩)⟩)⟩)⟩)⟩)⟩)⟩)⟩)⟩)⟩)⟩)⟩)⟩)⟩)⟩)⟩)⟩)⟩)⟩)⟩)⟩)⟩)⟩)⟩)⟩)⟩)⟩)
theorem rk_ncx (hv : ∀ w ∈ nvL, w.before args s = true) : ∀ q ∈ ncx, va_Nc q.1 q.2 s := by
  exact (List.forall_mem_cons.mpr ⟨va_Nc.of (hv _ (nv_i 226 (by decide +kernel))), (List.forall_mem_cons.mpr ⟨va_Nc.of (hv _ (nv_i 227 (by decide +kernel))), (List.forall_mem_cons.mpr ⟨va_Nc.of (hv _ (nv_i 245 (by decide +kernel))), (List.forall_mem_cons.mpr ⟨va_Nc.of (hv _ (nv_i 244 (by decide +kernel))), (fun _ h => absurd h List.not_mem_nil)⟩)⟩)⟩)⟩)
theorem rk_dgOnes : ∀ j : Nat, j < 100 → nvL[18 + j]? = some (Cond.eq (.elem (.static "java/lang/Integer" "DigitOnes" "[B") (.int (Int32.ofNat j))) (.int (i32 (48 + (j : Int) % 10)))) := by decide +kernel
theorem rk_DOnes (hts : ∀ w ∈ lw_tbl, w.before args s = true) (hv : ∀ w ∈ nvL, w.before args s = true) {A : Nat → Prop} (hA : ∀ a : Nat, a < s.heap.size → ¬ A a) : ∃ a : Nat, va_Z "java/lang/Integer" "DigitOnes" "[B" (.ref a) A s s.heap ∧ va_T .byte a 100 (fun j => .int (i32 (48 + (j : Int) % 10))) A s s.heap := by
  obtain ⟨a, h1, h2⟩ := va_Tof (tm := (.static "java/lang/Integer" "DigitOnes" "[B")) (ty := .byte) (N := 100) (f := fun j => .int (i32 (48 + (j : Int) % 10))) (by decide) (hv _ (nv_i 16 (by decide +kernel))) (va_eqt (hv _ (nv_i 17 (by decide +kernel)))) (fun j hj => va_eqt (hv _ (nv_i _ (rk_dgOnes j hj)))) hA
  exact ⟨a, va_Zof (hts _ (lw_i 687 (by decide +kernel))) (hts _ (lw_i 117 (by decide +kernel))) h1 hA, h2⟩
theorem rk_dgTens : ∀ j : Nat, j < 100 → nvL[121 + j]? = some (Cond.eq (.elem (.static "java/lang/Integer" "DigitTens" "[B") (.int (Int32.ofNat j))) (.int (i32 (48 + (j : Int) / 10)))) := by decide +kernel
theorem rk_DTens (hts : ∀ w ∈ lw_tbl, w.before args s = true) (hv : ∀ w ∈ nvL, w.before args s = true) {A : Nat → Prop} (hA : ∀ a : Nat, a < s.heap.size → ¬ A a) : ∃ a : Nat, va_Z "java/lang/Integer" "DigitTens" "[B" (.ref a) A s s.heap ∧ va_T .byte a 100 (fun j => .int (i32 (48 + (j : Int) / 10))) A s s.heap := by
  obtain ⟨a, h1, h2⟩ := va_Tof (tm := (.static "java/lang/Integer" "DigitTens" "[B")) (ty := .byte) (N := 100) (f := fun j => .int (i32 (48 + (j : Int) / 10))) (by decide) (hv _ (nv_i 119 (by decide +kernel))) (va_eqt (hv _ (nv_i 120 (by decide +kernel)))) (fun j hj => va_eqt (hv _ (nv_i _ (rk_dgTens j hj)))) hA
  exact ⟨a, va_Zof (hts _ (lw_i 689 (by decide +kernel))) (hts _ (lw_i 117 (by decide +kernel))) h1 hA, h2⟩
theorem rk_txS : ∀ j : Nat, j < 8 → nvL[398 + j]? = some (Cond.eq (.elem (.field (.string "HopRules$Address" 42) "java/lang/String" "value" "[B") (.int (Int32.ofNat j))) (.int (([104, 116, 116, 112, 115, 58, 47, 47] : List Int32).getD j 0))) := by decide +kernel
theorem rk_SS (hts : ∀ w ∈ lw_tbl, w.before args s = true) (hv : ∀ w ∈ nvL, w.before args s = true) {A : Nat → Prop} (hA : ∀ a : Nat, a < s.heap.size → ¬ A a) : ∃ a b : Nat, vk_S 1 [8] [[104, 116, 116, 112, 115, 58, 47, 47]] (fun _ => a) (fun _ => b) A s s.heap ∧ vk_R "HopRules$Address" 42 "https://" a s := by
  obtain ⟨adK, adV, h1, h2⟩ := vk_Sof (N := 1) (tm := fun _ => (.string "HopRules$Address" 42)) (len := [8]) (byt := [[104, 116, 116, 112, 115, 58, 47, 47]]) (A := A) (fun i hi => by (have e : i = 0 := by omega); subst e; decide) (fun i hi => (hv _ (nv_i 394 (by decide +kernel)))) (fun i hi => (hv _ (nv_i 395 (by decide +kernel)))) (fun i hi => (hv _ (nv_i 396 (by decide +kernel)))) (fun i hi => by (have e : i = 0 := by omega); subst e; exact (hv _ (nv_i 397 (by decide +kernel)))) (fun i hi j hj => by (have e : i = 0 := by omega); subst e; exact hv _ (nv_i _ (rk_txS j hj))) (fun i j hi hj hn => absurd (show i = j by omega) hn) hA
  exact ⟨adK 0, adV 0, vk_S1 h1, vk_R.of (hts _ (lw_i 541 (by decide +kernel))) (h2 0 (by decide))⟩
theorem rk_txH : ∀ j : Nat, j < 7 → nvL[410 + j]? = some (Cond.eq (.elem (.field (.string "HopRules$Address" 44) "java/lang/String" "value" "[B") (.int (Int32.ofNat j))) (.int (([104, 116, 116, 112, 58, 47, 47] : List Int32).getD j 0))) := by decide +kernel
theorem rk_SH (hts : ∀ w ∈ lw_tbl, w.before args s = true) (hv : ∀ w ∈ nvL, w.before args s = true) {A : Nat → Prop} (hA : ∀ a : Nat, a < s.heap.size → ¬ A a) : ∃ a b : Nat, vk_S 1 [7] [[104, 116, 116, 112, 58, 47, 47]] (fun _ => a) (fun _ => b) A s s.heap ∧ vk_R "HopRules$Address" 44 "http://" a s := by
  obtain ⟨adK, adV, h1, h2⟩ := vk_Sof (N := 1) (tm := fun _ => (.string "HopRules$Address" 44)) (len := [7]) (byt := [[104, 116, 116, 112, 58, 47, 47]]) (A := A) (fun i hi => by (have e : i = 0 := by omega); subst e; decide) (fun i hi => (hv _ (nv_i 406 (by decide +kernel)))) (fun i hi => (hv _ (nv_i 407 (by decide +kernel)))) (fun i hi => (hv _ (nv_i 408 (by decide +kernel)))) (fun i hi => by (have e : i = 0 := by omega); subst e; exact (hv _ (nv_i 409 (by decide +kernel)))) (fun i hi j hj => by (have e : i = 0 := by omega); subst e; exact hv _ (nv_i _ (rk_txH j hj))) (fun i j hi hj hn => absurd (show i = j by omega) hn) hA
  exact ⟨adK 0, adV 0, vk_S1 h1, vk_R.of (hts _ (lw_i 542 (by decide +kernel))) (h2 0 (by decide))⟩
theorem rk_EL (hts : ∀ w ∈ lw_tbl, w.before args s = true) (hv : ∀ w ∈ nvL, w.before args s = true) {A : Nat → Prop} (hA : ∀ a : Nat, a < s.heap.size → ¬ A a) : ∃ a : Nat, va_Z "java/util/ArrayList" "DEFAULTCAPACITY_EMPTY_ELEMENTDATA" "[Ljava/lang/Object;" (.ref a) A s s.heap ∧ va_T (.object "java/lang/Object") a 0 (fun _ => .null) A s s.heap := by
  obtain ⟨a, h1, h2⟩ := va_Tof (tm := (.static "java/util/ArrayList" "DEFAULTCAPACITY_EMPTY_ELEMENTDATA" "[Ljava/lang/Object;")) (ty := .object "java/lang/Object") (N := 0) (f := fun _ => .null) (by decide) (hv _ (nv_i 5 (by decide +kernel))) (va_eqt (hv _ (nv_i 7 (by decide +kernel)))) (fun j hj => absurd hj (Nat.not_lt_zero _)) hA
  exact ⟨a, va_Zof (hts _ (lw_i 146 (by decide +kernel))) (hts _ (lw_i 93 (by decide +kernel))) h1 hA, h2⟩
theorem rk_world (hts : ∀ w ∈ lw_tbl, w.before args s = true) (hv : ∀ w ∈ nvL, w.before args s = true) : ∃ E : EV, E.2.2.1 = s.heap.size ∧ va_K E.1 CL (tyE E) s ∧ ST E s s.heap := by
  have hA : ∀ a : Nat, a < s.heap.size → ¬ s.heap.size ≤ a := fun a h z => by omega
  obtain ⟨D, hD⟩ := rk_known hts
  obtain ⟨c0, g0, f0⟩ := rk_arr (s := s) (args := args) (ty := .int) (hts _ (lw_i 1112 (by decide +kernel)))
  obtain ⟨c1, g1, f1⟩ := rk_arr (s := s) (args := args) (ty := .boolean) (hts _ (lw_i 1660 (by decide +kernel)))
  obtain ⟨c2, g2, f2⟩ := rk_arr (s := s) (args := args) (ty := .byte) (hts _ (lw_i 316 (by decide +kernel)))
  obtain ⟨c3, g3, f3⟩ := rk_arrO (s := s) (args := args) (n := "java/lang/Object") (hts _ (lw_i 453 (by decide +kernel)))
  obtain ⟨c4, g4, f4⟩ := rk_arr (s := s) (args := args) (ty := .long) (hts _ (lw_i 1933 (by decide +kernel)))
  obtain ⟨mi, hmi⟩ := va_Mi.of (C := "[Ljava/lang/Object;") (hv _ (nv_i 275 (by decide +kernel)))
  obtain ⟨aS, bS, s1, s2⟩ := rk_SS hts hv hA
  obtain ⟨aH, bH, t1, t2⟩ := rk_SH hts hv hA
  obtain ⟨eS, e1, e2⟩ := rk_EL hts hv hA
  refine ⟨(D, (fun k => if k = 0 then c0 else if k = 1 then c1 else if k = 2 then c2 else if k = 3 then c3 else if k = 4 then c4 else if k = 9 then mi else if k = 10 then aS else if k = 11 then bS else if k = 12 then aH else bH), s.heap.size, eS), rfl, ⟨hD, ?_⟩, ⟨e1, e2, ?_⟩, ⟨?_, ?_, ?_⟩, ?_, ?_, ⟨s1, s2⟩, ⟨t1, t2⟩, rk_stx hts hv, hmi, va_AO.of (hts _ (lw_i 453 (by decide +kernel))), rk_ncx hv⟩
  · intro k q hq
    match k, hq with
    | 0, hq => cases Option.some.inj hq; exact ⟨g0, f0⟩
    | 1, hq => cases Option.some.inj hq; exact ⟨g1, f1⟩
    | 2, hq => cases Option.some.inj hq; exact ⟨g2, f2⟩
    | 3, hq => cases Option.some.inj hq; exact ⟨g3, f3⟩
    | 4, hq => cases Option.some.inj hq; exact ⟨g4, f4⟩
    | k + 5, hq => simp at hq
  · exact va_Zof (hts _ (lw_i 520 (by decide +kernel))) (hts _ (lw_i 113 (by decide +kernel))) (va_eqt (hv _ (nv_i 10 (by decide +kernel)))) hA
  · exact vx_Zqof (hts _ (lw_i 276 (by decide +kernel))) (hts _ (lw_i 97 (by decide +kernel))) (hv _ (nv_i 8 (by decide +kernel))) hA
  · exact vx_Zqof (hts _ (lw_i 278 (by decide +kernel))) (hts _ (lw_i 97 (by decide +kernel))) (hv _ (nv_i 9 (by decide +kernel))) hA
  · exact va_Zqof (hts _ (lw_i 592 (by decide +kernel))) (hts _ (lw_i 102 (by decide +kernel))) (hv _ (nv_i 11 (by decide +kernel))) hA
  · exact rk_DOnes hts hv hA
  · exact rk_DTens hts hv hA
end START
