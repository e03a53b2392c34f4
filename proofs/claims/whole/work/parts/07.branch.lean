section XB
variable {E : EV} {p : Program} {l : Launch} {e : Env} {R : Room} {s : State} {m : MethodId} {args : Array Value} {below : List Frame} {meth : Method} {c : Code} {cc : ByteArray} {nL mc ms : Nat} {own : String} {ret : Option FieldType} {Q : State → Prop} {G : GT} {kc ks pc : Nat} {L : List (Option Value)} {st : List Value}
theorem x_icmp_eq (n t : Nat) (C : CX E p R s m args meth c cc nL own mc ms ret) {x y : Int} {off : Int} (d : decode cc pc = .ok (.if_icmp .eq off, 3)) (hn : pc + 3 = n) (ht : (pc : Int) + off = (t : Int)) (hx : InR x) (hy : InR y)
    (kt : x = y → XW E p l e R s m args below meth c nL mc ms Q G kc ks t L st) (kf : ¬ x = y → XW E p l e R s m args below meth c nL mc ms Q G kc ks n L st) : XW E p l e R s m args below meth c nL mc ms Q G kc ks pc L (.int (i32 y) :: .int (i32 x) :: st) := by
  subst hn
  intro H locs cells slots ls h1 h2 h3 h4 h5
  refine lv_icmp_eq C.1 C.2.1 d ht (fun z => kt ?_ H locs cells slots ls h1 h2 h3 h4 h5) (fun z => kf ?_ H locs cells slots ls h1 h2 h3 h4 h5)
  · have e1 := i32_eq hx hy; have e2 := i32_lt hx hy; have e3 := i32_le hx hy; have e4 := i32_lt hy hx; have e5 := i32_le hy hx
    first | exact e1.mp z | exact fun w => z (e1.mpr w) | exact e1.mp (Decidable.byContradiction z) | exact e2.mp z | exact e3.mp z | exact e4.mp z | exact e5.mp z | exact Int.not_lt.mp (fun w => z (e2.mpr w)) | exact Int.not_lt.mp (fun w => z (e4.mpr w)) | exact Int.not_le.mp (fun w => z (e3.mpr w)) | exact Int.not_le.mp (fun w => z (e5.mpr w))
  · have e1 := i32_eq hx hy; have e2 := i32_lt hx hy; have e3 := i32_le hx hy; have e4 := i32_lt hy hx; have e5 := i32_le hy hx
    first | exact e1.mp z | exact fun w => z (e1.mpr w) | exact e1.mp (Decidable.byContradiction z) | exact e2.mp z | exact e3.mp z | exact e4.mp z | exact e5.mp z | exact Int.not_lt.mp (fun w => z (e2.mpr w)) | exact Int.not_lt.mp (fun w => z (e4.mpr w)) | exact Int.not_le.mp (fun w => z (e3.mpr w)) | exact Int.not_le.mp (fun w => z (e5.mpr w))
theorem x_icmp_ne (n t : Nat) (C : CX E p R s m args meth c cc nL own mc ms ret) {x y : Int} {off : Int} (d : decode cc pc = .ok (.if_icmp .ne off, 3)) (hn : pc + 3 = n) (ht : (pc : Int) + off = (t : Int)) (hx : InR x) (hy : InR y)
    (kt : ¬ x = y → XW E p l e R s m args below meth c nL mc ms Q G kc ks t L st) (kf : x = y → XW E p l e R s m args below meth c nL mc ms Q G kc ks n L st) : XW E p l e R s m args below meth c nL mc ms Q G kc ks pc L (.int (i32 y) :: .int (i32 x) :: st) := by
  subst hn
  intro H locs cells slots ls h1 h2 h3 h4 h5
  refine lv_icmp_ne C.1 C.2.1 d ht (fun z => kt ?_ H locs cells slots ls h1 h2 h3 h4 h5) (fun z => kf ?_ H locs cells slots ls h1 h2 h3 h4 h5)
  · have e1 := i32_eq hx hy; have e2 := i32_lt hx hy; have e3 := i32_le hx hy; have e4 := i32_lt hy hx; have e5 := i32_le hy hx
    first | exact e1.mp z | exact fun w => z (e1.mpr w) | exact e1.mp (Decidable.byContradiction z) | exact e2.mp z | exact e3.mp z | exact e4.mp z | exact e5.mp z | exact Int.not_lt.mp (fun w => z (e2.mpr w)) | exact Int.not_lt.mp (fun w => z (e4.mpr w)) | exact Int.not_le.mp (fun w => z (e3.mpr w)) | exact Int.not_le.mp (fun w => z (e5.mpr w))
  · have e1 := i32_eq hx hy; have e2 := i32_lt hx hy; have e3 := i32_le hx hy; have e4 := i32_lt hy hx; have e5 := i32_le hy hx
    first | exact e1.mp z | exact fun w => z (e1.mpr w) | exact e1.mp (Decidable.byContradiction z) | exact e2.mp z | exact e3.mp z | exact e4.mp z | exact e5.mp z | exact Int.not_lt.mp (fun w => z (e2.mpr w)) | exact Int.not_lt.mp (fun w => z (e4.mpr w)) | exact Int.not_le.mp (fun w => z (e3.mpr w)) | exact Int.not_le.mp (fun w => z (e5.mpr w))
theorem x_icmp_lt (n t : Nat) (C : CX E p R s m args meth c cc nL own mc ms ret) {x y : Int} {off : Int} (d : decode cc pc = .ok (.if_icmp .lt off, 3)) (hn : pc + 3 = n) (ht : (pc : Int) + off = (t : Int)) (hx : InR x) (hy : InR y)
    (kt : x < y → XW E p l e R s m args below meth c nL mc ms Q G kc ks t L st) (kf : y ≤ x → XW E p l e R s m args below meth c nL mc ms Q G kc ks n L st) : XW E p l e R s m args below meth c nL mc ms Q G kc ks pc L (.int (i32 y) :: .int (i32 x) :: st) := by
  subst hn
  intro H locs cells slots ls h1 h2 h3 h4 h5
  refine lv_icmp_lt C.1 C.2.1 d ht (fun z => kt ?_ H locs cells slots ls h1 h2 h3 h4 h5) (fun z => kf ?_ H locs cells slots ls h1 h2 h3 h4 h5)
  · have e1 := i32_eq hx hy; have e2 := i32_lt hx hy; have e3 := i32_le hx hy; have e4 := i32_lt hy hx; have e5 := i32_le hy hx
    first | exact e1.mp z | exact fun w => z (e1.mpr w) | exact e1.mp (Decidable.byContradiction z) | exact e2.mp z | exact e3.mp z | exact e4.mp z | exact e5.mp z | exact Int.not_lt.mp (fun w => z (e2.mpr w)) | exact Int.not_lt.mp (fun w => z (e4.mpr w)) | exact Int.not_le.mp (fun w => z (e3.mpr w)) | exact Int.not_le.mp (fun w => z (e5.mpr w))
  · have e1 := i32_eq hx hy; have e2 := i32_lt hx hy; have e3 := i32_le hx hy; have e4 := i32_lt hy hx; have e5 := i32_le hy hx
    first | exact e1.mp z | exact fun w => z (e1.mpr w) | exact e1.mp (Decidable.byContradiction z) | exact e2.mp z | exact e3.mp z | exact e4.mp z | exact e5.mp z | exact Int.not_lt.mp (fun w => z (e2.mpr w)) | exact Int.not_lt.mp (fun w => z (e4.mpr w)) | exact Int.not_le.mp (fun w => z (e3.mpr w)) | exact Int.not_le.mp (fun w => z (e5.mpr w))
theorem x_icmp_ge (n t : Nat) (C : CX E p R s m args meth c cc nL own mc ms ret) {x y : Int} {off : Int} (d : decode cc pc = .ok (.if_icmp .ge off, 3)) (hn : pc + 3 = n) (ht : (pc : Int) + off = (t : Int)) (hx : InR x) (hy : InR y)
    (kt : y ≤ x → XW E p l e R s m args below meth c nL mc ms Q G kc ks t L st) (kf : x < y → XW E p l e R s m args below meth c nL mc ms Q G kc ks n L st) : XW E p l e R s m args below meth c nL mc ms Q G kc ks pc L (.int (i32 y) :: .int (i32 x) :: st) := by
  subst hn
  intro H locs cells slots ls h1 h2 h3 h4 h5
  refine lv_icmp_ge C.1 C.2.1 d ht (fun z => kt ?_ H locs cells slots ls h1 h2 h3 h4 h5) (fun z => kf ?_ H locs cells slots ls h1 h2 h3 h4 h5)
  · have e1 := i32_eq hx hy; have e2 := i32_lt hx hy; have e3 := i32_le hx hy; have e4 := i32_lt hy hx; have e5 := i32_le hy hx
    first | exact e1.mp z | exact fun w => z (e1.mpr w) | exact e1.mp (Decidable.byContradiction z) | exact e2.mp z | exact e3.mp z | exact e4.mp z | exact e5.mp z | exact Int.not_lt.mp (fun w => z (e2.mpr w)) | exact Int.not_lt.mp (fun w => z (e4.mpr w)) | exact Int.not_le.mp (fun w => z (e3.mpr w)) | exact Int.not_le.mp (fun w => z (e5.mpr w))
  · have e1 := i32_eq hx hy; have e2 := i32_lt hx hy; have e3 := i32_le hx hy; have e4 := i32_lt hy hx; have e5 := i32_le hy hx
    first | exact e1.mp z | exact fun w => z (e1.mpr w) | exact e1.mp (Decidable.byContradiction z) | exact e2.mp z | exact e3.mp z | exact e4.mp z | exact e5.mp z | exact Int.not_lt.mp (fun w => z (e2.mpr w)) | exact Int.not_lt.mp (fun w => z (e4.mpr w)) | exact Int.not_le.mp (fun w => z (e3.mpr w)) | exact Int.not_le.mp (fun w => z (e5.mpr w))
theorem x_icmp_gt (n t : Nat) (C : CX E p R s m args meth c cc nL own mc ms ret) {x y : Int} {off : Int} (d : decode cc pc = .ok (.if_icmp .gt off, 3)) (hn : pc + 3 = n) (ht : (pc : Int) + off = (t : Int)) (hx : InR x) (hy : InR y)
    (kt : y < x → XW E p l e R s m args below meth c nL mc ms Q G kc ks t L st) (kf : x ≤ y → XW E p l e R s m args below meth c nL mc ms Q G kc ks n L st) : XW E p l e R s m args below meth c nL mc ms Q G kc ks pc L (.int (i32 y) :: .int (i32 x) :: st) := by
  subst hn
  intro H locs cells slots ls h1 h2 h3 h4 h5
  refine lv_icmp_gt C.1 C.2.1 d ht (fun z => kt ?_ H locs cells slots ls h1 h2 h3 h4 h5) (fun z => kf ?_ H locs cells slots ls h1 h2 h3 h4 h5)
  · have e1 := i32_eq hx hy; have e2 := i32_lt hx hy; have e3 := i32_le hx hy; have e4 := i32_lt hy hx; have e5 := i32_le hy hx
    first | exact e1.mp z | exact fun w => z (e1.mpr w) | exact e1.mp (Decidable.byContradiction z) | exact e2.mp z | exact e3.mp z | exact e4.mp z | exact e5.mp z | exact Int.not_lt.mp (fun w => z (e2.mpr w)) | exact Int.not_lt.mp (fun w => z (e4.mpr w)) | exact Int.not_le.mp (fun w => z (e3.mpr w)) | exact Int.not_le.mp (fun w => z (e5.mpr w))
  · have e1 := i32_eq hx hy; have e2 := i32_lt hx hy; have e3 := i32_le hx hy; have e4 := i32_lt hy hx; have e5 := i32_le hy hx
    first | exact e1.mp z | exact fun w => z (e1.mpr w) | exact e1.mp (Decidable.byContradiction z) | exact e2.mp z | exact e3.mp z | exact e4.mp z | exact e5.mp z | exact Int.not_lt.mp (fun w => z (e2.mpr w)) | exact Int.not_lt.mp (fun w => z (e4.mpr w)) | exact Int.not_le.mp (fun w => z (e3.mpr w)) | exact Int.not_le.mp (fun w => z (e5.mpr w))
theorem x_icmp_le (n t : Nat) (C : CX E p R s m args meth c cc nL own mc ms ret) {x y : Int} {off : Int} (d : decode cc pc = .ok (.if_icmp .le off, 3)) (hn : pc + 3 = n) (ht : (pc : Int) + off = (t : Int)) (hx : InR x) (hy : InR y)
    (kt : x ≤ y → XW E p l e R s m args below meth c nL mc ms Q G kc ks t L st) (kf : y < x → XW E p l e R s m args below meth c nL mc ms Q G kc ks n L st) : XW E p l e R s m args below meth c nL mc ms Q G kc ks pc L (.int (i32 y) :: .int (i32 x) :: st) := by
  subst hn
  intro H locs cells slots ls h1 h2 h3 h4 h5
  refine lv_icmp_le C.1 C.2.1 d ht (fun z => kt ?_ H locs cells slots ls h1 h2 h3 h4 h5) (fun z => kf ?_ H locs cells slots ls h1 h2 h3 h4 h5)
  · have e1 := i32_eq hx hy; have e2 := i32_lt hx hy; have e3 := i32_le hx hy; have e4 := i32_lt hy hx; have e5 := i32_le hy hx
    first | exact e1.mp z | exact fun w => z (e1.mpr w) | exact e1.mp (Decidable.byContradiction z) | exact e2.mp z | exact e3.mp z | exact e4.mp z | exact e5.mp z | exact Int.not_lt.mp (fun w => z (e2.mpr w)) | exact Int.not_lt.mp (fun w => z (e4.mpr w)) | exact Int.not_le.mp (fun w => z (e3.mpr w)) | exact Int.not_le.mp (fun w => z (e5.mpr w))
  · have e1 := i32_eq hx hy; have e2 := i32_lt hx hy; have e3 := i32_le hx hy; have e4 := i32_lt hy hx; have e5 := i32_le hy hx
    first | exact e1.mp z | exact fun w => z (e1.mpr w) | exact e1.mp (Decidable.byContradiction z) | exact e2.mp z | exact e3.mp z | exact e4.mp z | exact e5.mp z | exact Int.not_lt.mp (fun w => z (e2.mpr w)) | exact Int.not_lt.mp (fun w => z (e4.mpr w)) | exact Int.not_le.mp (fun w => z (e3.mpr w)) | exact Int.not_le.mp (fun w => z (e5.mpr w))
theorem x_if_eq (n t : Nat) (C : CX E p R s m args meth c cc nL own mc ms ret) {x : Int} {off : Int} (d : decode cc pc = .ok (.ifCond .eq off, 3)) (hn : pc + 3 = n) (ht : (pc : Int) + off = (t : Int)) (hx : InR x)
    (kt : x = 0 → XW E p l e R s m args below meth c nL mc ms Q G kc ks t L st) (kf : ¬ x = 0 → XW E p l e R s m args below meth c nL mc ms Q G kc ks n L st) : XW E p l e R s m args below meth c nL mc ms Q G kc ks pc L (.int (i32 x) :: st) := by
  subst hn
  have hy : InR 0 := ⟨by omega, by omega⟩
  intro H locs cells slots ls h1 h2 h3 h4 h5
  refine lv_if_eq C.1 C.2.1 d ht (fun z => kt ?_ H locs cells slots ls h1 h2 h3 h4 h5) (fun z => kf ?_ H locs cells slots ls h1 h2 h3 h4 h5)
  · have e1 := i32_eq hx hy; have e2 := i32_lt hx hy; have e3 := i32_le hx hy; have e4 := i32_lt hy hx; have e5 := i32_le hy hx
    rw [i32_0] at z
    first | exact e1.mp z | exact fun w => z (e1.mpr w) | exact e1.mp (Decidable.byContradiction z) | exact e2.mp z | exact e3.mp z | exact e4.mp z | exact e5.mp z | exact Int.not_lt.mp (fun w => z (e2.mpr w)) | exact Int.not_lt.mp (fun w => z (e4.mpr w)) | exact Int.not_le.mp (fun w => z (e3.mpr w)) | exact Int.not_le.mp (fun w => z (e5.mpr w))
  · have e1 := i32_eq hx hy; have e2 := i32_lt hx hy; have e3 := i32_le hx hy; have e4 := i32_lt hy hx; have e5 := i32_le hy hx
    rw [i32_0] at z
    first | exact e1.mp z | exact fun w => z (e1.mpr w) | exact e1.mp (Decidable.byContradiction z) | exact e2.mp z | exact e3.mp z | exact e4.mp z | exact e5.mp z | exact Int.not_lt.mp (fun w => z (e2.mpr w)) | exact Int.not_lt.mp (fun w => z (e4.mpr w)) | exact Int.not_le.mp (fun w => z (e3.mpr w)) | exact Int.not_le.mp (fun w => z (e5.mpr w))
theorem x_if_ne (n t : Nat) (C : CX E p R s m args meth c cc nL own mc ms ret) {x : Int} {off : Int} (d : decode cc pc = .ok (.ifCond .ne off, 3)) (hn : pc + 3 = n) (ht : (pc : Int) + off = (t : Int)) (hx : InR x)
    (kt : ¬ x = 0 → XW E p l e R s m args below meth c nL mc ms Q G kc ks t L st) (kf : x = 0 → XW E p l e R s m args below meth c nL mc ms Q G kc ks n L st) : XW E p l e R s m args below meth c nL mc ms Q G kc ks pc L (.int (i32 x) :: st) := by
  subst hn
  have hy : InR 0 := ⟨by omega, by omega⟩
  intro H locs cells slots ls h1 h2 h3 h4 h5
  refine lv_if_ne C.1 C.2.1 d ht (fun z => kt ?_ H locs cells slots ls h1 h2 h3 h4 h5) (fun z => kf ?_ H locs cells slots ls h1 h2 h3 h4 h5)
  · have e1 := i32_eq hx hy; have e2 := i32_lt hx hy; have e3 := i32_le hx hy; have e4 := i32_lt hy hx; have e5 := i32_le hy hx
    rw [i32_0] at z
    first | exact e1.mp z | exact fun w => z (e1.mpr w) | exact e1.mp (Decidable.byContradiction z) | exact e2.mp z | exact e3.mp z | exact e4.mp z | exact e5.mp z | exact Int.not_lt.mp (fun w => z (e2.mpr w)) | exact Int.not_lt.mp (fun w => z (e4.mpr w)) | exact Int.not_le.mp (fun w => z (e3.mpr w)) | exact Int.not_le.mp (fun w => z (e5.mpr w))
  · have e1 := i32_eq hx hy; have e2 := i32_lt hx hy; have e3 := i32_le hx hy; have e4 := i32_lt hy hx; have e5 := i32_le hy hx
    rw [i32_0] at z
    first | exact e1.mp z | exact fun w => z (e1.mpr w) | exact e1.mp (Decidable.byContradiction z) | exact e2.mp z | exact e3.mp z | exact e4.mp z | exact e5.mp z | exact Int.not_lt.mp (fun w => z (e2.mpr w)) | exact Int.not_lt.mp (fun w => z (e4.mpr w)) | exact Int.not_le.mp (fun w => z (e3.mpr w)) | exact Int.not_le.mp (fun w => z (e5.mpr w))
theorem x_if_lt (n t : Nat) (C : CX E p R s m args meth c cc nL own mc ms ret) {x : Int} {off : Int} (d : decode cc pc = .ok (.ifCond .lt off, 3)) (hn : pc + 3 = n) (ht : (pc : Int) + off = (t : Int)) (hx : InR x)
    (kt : x < 0 → XW E p l e R s m args below meth c nL mc ms Q G kc ks t L st) (kf : 0 ≤ x → XW E p l e R s m args below meth c nL mc ms Q G kc ks n L st) : XW E p l e R s m args below meth c nL mc ms Q G kc ks pc L (.int (i32 x) :: st) := by
  subst hn
  have hy : InR 0 := ⟨by omega, by omega⟩
  intro H locs cells slots ls h1 h2 h3 h4 h5
  refine lv_if_lt C.1 C.2.1 d ht (fun z => kt ?_ H locs cells slots ls h1 h2 h3 h4 h5) (fun z => kf ?_ H locs cells slots ls h1 h2 h3 h4 h5)
  · have e1 := i32_eq hx hy; have e2 := i32_lt hx hy; have e3 := i32_le hx hy; have e4 := i32_lt hy hx; have e5 := i32_le hy hx
    rw [i32_0] at z
    first | exact e1.mp z | exact fun w => z (e1.mpr w) | exact e1.mp (Decidable.byContradiction z) | exact e2.mp z | exact e3.mp z | exact e4.mp z | exact e5.mp z | exact Int.not_lt.mp (fun w => z (e2.mpr w)) | exact Int.not_lt.mp (fun w => z (e4.mpr w)) | exact Int.not_le.mp (fun w => z (e3.mpr w)) | exact Int.not_le.mp (fun w => z (e5.mpr w))
  · have e1 := i32_eq hx hy; have e2 := i32_lt hx hy; have e3 := i32_le hx hy; have e4 := i32_lt hy hx; have e5 := i32_le hy hx
    rw [i32_0] at z
    first | exact e1.mp z | exact fun w => z (e1.mpr w) | exact e1.mp (Decidable.byContradiction z) | exact e2.mp z | exact e3.mp z | exact e4.mp z | exact e5.mp z | exact Int.not_lt.mp (fun w => z (e2.mpr w)) | exact Int.not_lt.mp (fun w => z (e4.mpr w)) | exact Int.not_le.mp (fun w => z (e3.mpr w)) | exact Int.not_le.mp (fun w => z (e5.mpr w))
theorem x_if_ge (n t : Nat) (C : CX E p R s m args meth c cc nL own mc ms ret) {x : Int} {off : Int} (d : decode cc pc = .ok (.ifCond .ge off, 3)) (hn : pc + 3 = n) (ht : (pc : Int) + off = (t : Int)) (hx : InR x)
    (kt : 0 ≤ x → XW E p l e R s m args below meth c nL mc ms Q G kc ks t L st) (kf : x < 0 → XW E p l e R s m args below meth c nL mc ms Q G kc ks n L st) : XW E p l e R s m args below meth c nL mc ms Q G kc ks pc L (.int (i32 x) :: st) := by
  subst hn
  have hy : InR 0 := ⟨by omega, by omega⟩
  intro H locs cells slots ls h1 h2 h3 h4 h5
  refine lv_if_ge C.1 C.2.1 d ht (fun z => kt ?_ H locs cells slots ls h1 h2 h3 h4 h5) (fun z => kf ?_ H locs cells slots ls h1 h2 h3 h4 h5)
  · have e1 := i32_eq hx hy; have e2 := i32_lt hx hy; have e3 := i32_le hx hy; have e4 := i32_lt hy hx; have e5 := i32_le hy hx
    rw [i32_0] at z
    first | exact e1.mp z | exact fun w => z (e1.mpr w) | exact e1.mp (Decidable.byContradiction z) | exact e2.mp z | exact e3.mp z | exact e4.mp z | exact e5.mp z | exact Int.not_lt.mp (fun w => z (e2.mpr w)) | exact Int.not_lt.mp (fun w => z (e4.mpr w)) | exact Int.not_le.mp (fun w => z (e3.mpr w)) | exact Int.not_le.mp (fun w => z (e5.mpr w))
  · have e1 := i32_eq hx hy; have e2 := i32_lt hx hy; have e3 := i32_le hx hy; have e4 := i32_lt hy hx; have e5 := i32_le hy hx
    rw [i32_0] at z
    first | exact e1.mp z | exact fun w => z (e1.mpr w) | exact e1.mp (Decidable.byContradiction z) | exact e2.mp z | exact e3.mp z | exact e4.mp z | exact e5.mp z | exact Int.not_lt.mp (fun w => z (e2.mpr w)) | exact Int.not_lt.mp (fun w => z (e4.mpr w)) | exact Int.not_le.mp (fun w => z (e3.mpr w)) | exact Int.not_le.mp (fun w => z (e5.mpr w))
theorem x_if_gt (n t : Nat) (C : CX E p R s m args meth c cc nL own mc ms ret) {x : Int} {off : Int} (d : decode cc pc = .ok (.ifCond .gt off, 3)) (hn : pc + 3 = n) (ht : (pc : Int) + off = (t : Int)) (hx : InR x)
    (kt : 0 < x → XW E p l e R s m args below meth c nL mc ms Q G kc ks t L st) (kf : x ≤ 0 → XW E p l e R s m args below meth c nL mc ms Q G kc ks n L st) : XW E p l e R s m args below meth c nL mc ms Q G kc ks pc L (.int (i32 x) :: st) := by
  subst hn
  have hy : InR 0 := ⟨by omega, by omega⟩
  intro H locs cells slots ls h1 h2 h3 h4 h5
  refine lv_if_gt C.1 C.2.1 d ht (fun z => kt ?_ H locs cells slots ls h1 h2 h3 h4 h5) (fun z => kf ?_ H locs cells slots ls h1 h2 h3 h4 h5)
  · have e1 := i32_eq hx hy; have e2 := i32_lt hx hy; have e3 := i32_le hx hy; have e4 := i32_lt hy hx; have e5 := i32_le hy hx
    rw [i32_0] at z
    first | exact e1.mp z | exact fun w => z (e1.mpr w) | exact e1.mp (Decidable.byContradiction z) | exact e2.mp z | exact e3.mp z | exact e4.mp z | exact e5.mp z | exact Int.not_lt.mp (fun w => z (e2.mpr w)) | exact Int.not_lt.mp (fun w => z (e4.mpr w)) | exact Int.not_le.mp (fun w => z (e3.mpr w)) | exact Int.not_le.mp (fun w => z (e5.mpr w))
  · have e1 := i32_eq hx hy; have e2 := i32_lt hx hy; have e3 := i32_le hx hy; have e4 := i32_lt hy hx; have e5 := i32_le hy hx
    rw [i32_0] at z
    first | exact e1.mp z | exact fun w => z (e1.mpr w) | exact e1.mp (Decidable.byContradiction z) | exact e2.mp z | exact e3.mp z | exact e4.mp z | exact e5.mp z | exact Int.not_lt.mp (fun w => z (e2.mpr w)) | exact Int.not_lt.mp (fun w => z (e4.mpr w)) | exact Int.not_le.mp (fun w => z (e3.mpr w)) | exact Int.not_le.mp (fun w => z (e5.mpr w))
theorem x_if_le (n t : Nat) (C : CX E p R s m args meth c cc nL own mc ms ret) {x : Int} {off : Int} (d : decode cc pc = .ok (.ifCond .le off, 3)) (hn : pc + 3 = n) (ht : (pc : Int) + off = (t : Int)) (hx : InR x)
    (kt : x ≤ 0 → XW E p l e R s m args below meth c nL mc ms Q G kc ks t L st) (kf : 0 < x → XW E p l e R s m args below meth c nL mc ms Q G kc ks n L st) : XW E p l e R s m args below meth c nL mc ms Q G kc ks pc L (.int (i32 x) :: st) := by
  subst hn
  have hy : InR 0 := ⟨by omega, by omega⟩
  intro H locs cells slots ls h1 h2 h3 h4 h5
  refine lv_if_le C.1 C.2.1 d ht (fun z => kt ?_ H locs cells slots ls h1 h2 h3 h4 h5) (fun z => kf ?_ H locs cells slots ls h1 h2 h3 h4 h5)
  · have e1 := i32_eq hx hy; have e2 := i32_lt hx hy; have e3 := i32_le hx hy; have e4 := i32_lt hy hx; have e5 := i32_le hy hx
    rw [i32_0] at z
    first | exact e1.mp z | exact fun w => z (e1.mpr w) | exact e1.mp (Decidable.byContradiction z) | exact e2.mp z | exact e3.mp z | exact e4.mp z | exact e5.mp z | exact Int.not_lt.mp (fun w => z (e2.mpr w)) | exact Int.not_lt.mp (fun w => z (e4.mpr w)) | exact Int.not_le.mp (fun w => z (e3.mpr w)) | exact Int.not_le.mp (fun w => z (e5.mpr w))
  · have e1 := i32_eq hx hy; have e2 := i32_lt hx hy; have e3 := i32_le hx hy; have e4 := i32_lt hy hx; have e5 := i32_le hy hx
    rw [i32_0] at z
    first | exact e1.mp z | exact fun w => z (e1.mpr w) | exact e1.mp (Decidable.byContradiction z) | exact e2.mp z | exact e3.mp z | exact e4.mp z | exact e5.mp z | exact Int.not_lt.mp (fun w => z (e2.mpr w)) | exact Int.not_lt.mp (fun w => z (e4.mpr w)) | exact Int.not_le.mp (fun w => z (e3.mpr w)) | exact Int.not_le.mp (fun w => z (e5.mpr w))
end XB
