/-! joins, loops, calls whose answer is told outright -/
def bI (b : Bool) : Int := if b = true then 1 else 0
theorem bI_0 {b : Bool} : bI b = 0 ↔ b = false := by cases b <;> simp [bI]
theorem bI_1 {b : Bool} : bI b = 1 ↔ b = true := by cases b <;> simp [bI]
theorem bI_in (b : Bool) : InR (bI b) := by cases b <;> exact ⟨by decide, by decide⟩
theorem bI_01 (b : Bool) : bI b = 0 ∨ bI b = 1 := by cases b <;> simp [bI]
theorem bI_t {b : Bool} (h : b = true) : (1 : Int) = bI b := by rw [h]; rfl
theorem bI_f {b : Bool} (h : b = false) : (0 : Int) = bI b := by rw [h]; rfl
theorem vi {x y : Int} (h : x = y) : some (Value.int (i32 x)) = some (.int (i32 y)) := by rw [h]
theorem nar_b (b : Bool) : narrow .boolean (.int (i32 (bI b))) = .int (i32 (bI b)) := by cases b <;> rfl
theorem nar_01 {v : Int} (h : v = 0 ∨ v = 1) : narrow .boolean (.int (i32 v)) = .int (i32 v) := by rcases h with rfl | rfl <;> rfl
theorem u2r {α : Type} (f : Nat → Nat → α) (k a : Nat) (v : α) (k' a' : Nat) : u2 f k a v k' a' = if k' = k ∧ a' = a then v else f k' a' := rfl
def pD (w : Option Value) (G1 : GT) : Option Value → GT → Prop := fun v G' => v = w ∧ G' = G1
section XJ
variable {E : EV} {p : Program} {l : Launch} {e : Env} {R : Room} {s : State} {m : MethodId} {args : Array Value} {below : List Frame} {meth : Method} {c : Code} {cc : ByteArray} {nL mc ms : Nat} {own : String} {ret : Option FieldType} {Q : State → Prop} {G : GT} {kc ks pc : Nat} {L : List (Option Value)} {st st0 : List Value}
variable {y : MethodName} {cc1 : ByteArray} {nL1 : Nat} {ret1 : Option FieldType} {fr1 lo1 mc1 ms1 idx b : Nat} {As : List Value} {G1 : GT} {x : Value}
theorem x_join {α : Type} (q : Nat) (P : α → Prop) (G' : α → GT) (L' : α → List (Option Value)) (st' : α → List Value)
    (hJ : ∀ a, P a → XW E p l e R s m args below meth c nL mc ms Q (G' a) kc ks q (L' a) (st' a))
    (k : (∀ a, P a → XW E p l e R s m args below meth c nL mc ms Q (G' a) kc ks q (L' a) (st' a)) → XW E p l e R s m args below meth c nL mc ms Q G kc ks pc L st) : XW E p l e R s m args below meth c nL mc ms Q G kc ks pc L st := k hJ
theorem x_loop {α : Type} (μ : α → Nat) (I : α → Prop) (G' : α → GT) (L' : α → List (Option Value)) (st' : α → List Value) (a0 : α) (h0 : I a0) (hG : G' a0 = G) (hL : L' a0 = L) (hs : st' a0 = st)
    (step : ∀ a, I a → (∀ b, I b → μ b < μ a → XW E p l e R s m args below meth c nL mc ms Q (G' b) kc ks pc (L' b) (st' b)) → XW E p l e R s m args below meth c nL mc ms Q (G' a) kc ks pc (L' a) (st' a)) : XW E p l e R s m args below meth c nL mc ms Q G kc ks pc L st := by
  subst hG
  subst hL
  subst hs
  have key : ∀ (n : Nat) (a : α), μ a < n → I a → XW E p l e R s m args below meth c nL mc ms Q (G' a) kc ks pc (L' a) (st' a) := by
    intro n
    induction n with
    | zero => intro a h; omega
    | succ n ih => intro a h hI; exact step a hI (fun b hb hlt => ih b (by omega) hb)
  exact key _ a0 (Nat.lt_succ_self _) h0
theorem x_joinv (q : Nat) (P : Int → Prop) (hJ : ∀ v, P v → XW E p l e R s m args below meth c nL mc ms Q G kc ks q L (.int (i32 v) :: st))
    (k : (∀ v, P v → XW E p l e R s m args below meth c nL mc ms Q G kc ks q L (.int (i32 v) :: st)) → XW E p l e R s m args below meth c nL mc ms Q G kc ks pc L st) : XW E p l e R s m args below meth c nL mc ms Q G kc ks pc L st := k hJ
/-- the same state, told otherwise -/
theorem x_as {G' : GT} {L' : List (Option Value)} {st' : List Value} (hG : G' = G) (hL : L' = L) (hs : st' = st) (k : XW E p l e R s m args below meth c nL mc ms Q G' kc ks pc L' st') : XW E p l e R s m args below meth c nL mc ms Q G kc ks pc L st := by
  subst hG
  subst hL
  subst hs
  exact k
theorem x_if_eqB (n t : Nat) (C : CX E p R s m args meth c cc nL own mc ms ret) {q : Bool} {off : Int} (d : decode cc pc = .ok (.ifCond .eq off, 3)) (hn : pc + 3 = n) (ht : (pc : Int) + off = (t : Int))
    (kt : q = false → XW E p l e R s m args below meth c nL mc ms Q G kc ks t L st) (kf : q = true → XW E p l e R s m args below meth c nL mc ms Q G kc ks n L st) : XW E p l e R s m args below meth c nL mc ms Q G kc ks pc L (.int (i32 (bI q)) :: st) :=
  x_if_eq n t C d hn ht (bI_in q) (fun h => kt (bI_0.mp h)) (fun h => kf (by cases q; exact absurd rfl h; rfl))
theorem x_if_neB (n t : Nat) (C : CX E p R s m args meth c cc nL own mc ms ret) {q : Bool} {off : Int} (d : decode cc pc = .ok (.ifCond .ne off, 3)) (hn : pc + 3 = n) (ht : (pc : Int) + off = (t : Int))
    (kt : q = true → XW E p l e R s m args below meth c nL mc ms Q G kc ks t L st) (kf : q = false → XW E p l e R s m args below meth c nL mc ms Q G kc ks n L st) : XW E p l e R s m args below meth c nL mc ms Q G kc ks pc L (.int (i32 (bI q)) :: st) :=
  x_if_ne n t C d hn ht (bI_in q) (fun h => kt (by cases q; exact absurd rfl h; rfl)) (fun h => kf (bI_0.mp h))
theorem x_Vr (n0 : Nat) {n ci : Nat} {Cn : String} {Tn : u_T} {N : Nat} (C : CX E p R s m args meth c cc nL own mc ms ret) (hV : VW own idx y cc1 nL1 ret1 n) (hi : Cond.instanceMethod y ∈ AW) (hs : Cond.selects y.cls y y ∈ AW) (hM : MT E l y cc1 nL1 ret1 fr1 lo1 0 0 (.ref b :: As) G (pD (some x) G1)) (d : decode cc pc = .ok (.invokevirtual idx, 3)) (hn : pc + 3 = n0)
    (hst : As.reverse ++ .ref b :: st = st0) (hlen : As.length = n) (hc : CL[ci]? = some (Cn, Tn, N)) (hy : y.cls = Cn) (h3 : (Nat.ble 3 ci && Nat.ble ci 15) = true) (hk : gK G b = ci) (hR : fr1 + 1 ≤ R.frames ∧ 8 + (nL1 + 11) + lo1 ≤ R.locals) (hw : (st.map fun v => v.category).sum ≤ 8)
    (kk : XW E p l e R s m args below meth c nL mc ms Q G1 kc ks n0 L (x :: st)) : XW E p l e R s m args below meth c nL mc ms Q G kc ks pc L st0 :=
  x_callV n0 ci kc ks C hV hi hs hM d hn hst hlen hc hy h3 hk hR hw ⟨Nat.le_refl _, Nat.le_refl _⟩ (fun v G' h => by obtain ⟨rfl, rfl⟩ := h; exact kk)
theorem x_Vv (n0 : Nat) {n ci : Nat} {Cn : String} {Tn : u_T} {N : Nat} (C : CX E p R s m args meth c cc nL own mc ms ret) (hV : VW own idx y cc1 nL1 ret1 n) (hi : Cond.instanceMethod y ∈ AW) (hs : Cond.selects y.cls y y ∈ AW) (hM : MT E l y cc1 nL1 ret1 fr1 lo1 0 0 (.ref b :: As) G (pD none G1)) (d : decode cc pc = .ok (.invokevirtual idx, 3)) (hn : pc + 3 = n0)
    (hst : As.reverse ++ .ref b :: st = st0) (hlen : As.length = n) (hc : CL[ci]? = some (Cn, Tn, N)) (hy : y.cls = Cn) (h3 : (Nat.ble 3 ci && Nat.ble ci 15) = true) (hk : gK G b = ci) (hR : fr1 + 1 ≤ R.frames ∧ 8 + (nL1 + 11) + lo1 ≤ R.locals) (hw : (st.map fun v => v.category).sum ≤ 8)
    (kk : XW E p l e R s m args below meth c nL mc ms Q G1 kc ks n0 L st) : XW E p l e R s m args below meth c nL mc ms Q G kc ks pc L st0 :=
  x_callV n0 ci kc ks C hV hi hs hM d hn hst hlen hc hy h3 hk hR hw ⟨Nat.le_refl _, Nat.le_refl _⟩ (fun v G' h => by obtain ⟨rfl, rfl⟩ := h; exact kk)
theorem x_Sr (n0 : Nat) {n : Nat} (C : CX E p R s m args meth c cc nL own mc ms ret) (hV : VW own idx y cc1 nL1 ret1 n) (hi : Cond.static y ∈ AW) (hM : MT E l y cc1 nL1 ret1 fr1 lo1 0 0 As G (pD (some x) G1)) (d : decode cc pc = .ok (.invokestatic idx, 3)) (hn : pc + 3 = n0)
    (hst : As.reverse ++ st = st0) (hlen : As.length = n) (hR : fr1 + 1 ≤ R.frames ∧ 8 + (nL1 + 11) + lo1 ≤ R.locals) (hw : (st.map fun v => v.category).sum ≤ 8)
    (kk : XW E p l e R s m args below meth c nL mc ms Q G1 kc ks n0 L (x :: st)) : XW E p l e R s m args below meth c nL mc ms Q G kc ks pc L st0 :=
  x_callS n0 kc ks C hV hi hM d hn hst hlen hR hw ⟨Nat.le_refl _, Nat.le_refl _⟩ (fun v G' h => by obtain ⟨rfl, rfl⟩ := h; exact kk)
theorem x_i2c (n : Nat) (C : CX E p R s m args meth c cc nL own mc ms ret) {v : Int} (d : decode cc pc = .ok (.i2c, 1)) (hn : pc + 1 = n) (hv : 0 ≤ v ∧ v < 65536)
    (k : XW E p l e R s m args below meth c nL mc ms Q G kc ks n L (.int (i32 v) :: st)) : XW E p l e R s m args below meth c nL mc ms Q G kc ks pc L (.int (i32 v) :: st) := by
  subst hn
  intro H locs cells slots ls h1 h2 h3 h4 h5
  refine lv_i2c C.1 C.2.1 d ?_ (k H locs cells slots ls h1 h2 h3 h4 h5)
  obtain ⟨q, rfl⟩ := Int.eq_ofNat_of_zero_le hv.1
  have hq : q < 65536 := by omega
  rw [← i32_nI, pk_char, pk_tn (by omega), Nat.mod_eq_of_lt hq]
end XJ
theorem aw_sub {ws : List Cond} (ps : List Nat) (hp : ws = ps.filterMap (fun i => lw_tbl[i]?)) (h : ws.all goodWord = true) : ∀ w ∈ ws, w ∈ AW := fun w hw => List.mem_filter.mpr ⟨List.mem_append_left _ (goodIn_r ws ps hp h w hw).1, List.all_eq_true.mp h w hw⟩
