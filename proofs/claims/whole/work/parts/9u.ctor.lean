/-! the reference's constructor, the row of one long number -/
section PICX
variable {E : EV} {G G' : GT} {f : FT} {ow : Nat → Nat} {q k : Nat}
theorem pic_newX {e : va_E} (h : pic E G f ow) (hq : f q = none) (hK : gK G' = va_up (gK G) q k) (hx : ∀ x, x ≠ q → (∀ j, gI G' j x = gI G j x) ∧ (∀ j, gP G' j x = gP G j x) ∧ ∀ j, gA G' x j = gA G x j) (hL : gL G' = gL G) (hR : gR G' = gR G) (hk : k ≠ 20 ∧ k ≠ 22 ∧ k ≠ 24) (he : ent E G' q = some e) (wf : wfG G') : pic E G' (va_up f q (some e)) ow := by
  have kn : ∀ x, x ≠ q → gK G' x = gK G x := fun x z => by rw [hK]; exact if_neg z
  have kq : gK G' q = k := by rw [hK]; exact if_pos rfl
  refine ⟨fun x e' he' => ?_, fun x => ?_, wf⟩
  · by_cases c : x = q
    · subst c
      rw [up_s, ← he']
      exact he.symm
    · rw [up_n c]
      obtain ⟨a, b, d⟩ := hx x c
      have he2 : ent E G' x = ent E G x := ent_eq (kn x c) a b d (fun _ _ _ => by rw [hR])
      rw [he2] at he'
      exact h.1 x e' he'
  · by_cases c : x = q
    · subst c
      exact cmp_none ⟨by rw [kq]; exact hk.1, by rw [kq]; exact hk.2.1, by rw [kq]; exact hk.2.2⟩
    · refine cmp_kept (G := G) (h.2.1 x) (kn x c) (by rw [hL]) (up_n c) (fun y y1 y2 y3 => ?_)
      have hyq : y ≠ q := fun z => by rw [z, hq] at y3; cases y3
      exact ⟨(kn y hyq).trans y1, y2, up_n hyq⟩
/-- the model's object -/
def nM (G : GT) (q : Nat) : GT := (va_up G.1 q 15, G.2.1, (fun i a => if a = q ∧ 1500 ≤ i then none else G.2.2.1 i a), G.2.2.2)
def nJ (G : GT) (q : Nat) : GT := (va_up G.1 q 26, G.2.1, G.2.2.1, G.2.2.2.1, (fun a j => if a = q then 0 else G.2.2.2.2.1 a j), G.2.2.2.2.2)
theorem wf_new (h : wfG G) (hK : gK G' = va_up (gK G) q k) (h0 : gK G q = 0) (hI : gI G' = gI G) (hA : ∀ a j, InR (gA G' a j)) (hR : gR G' = gR G) (hk : (k = 15 ∨ 100 ≤ k) → ∀ x, gK G x ≠ k) (hk2 : k = 15 ∨ k = 26 ∨ (100 ≤ k ∧ k < 172 ∧ mS (k - 100) = false)) : wfG G' := by
  obtain ⟨w1, w2, w3, w4, w5, w6, w7⟩ := h
  have kn : ∀ x, x ≠ q → gK G' x = gK G x := fun x z => by rw [hK]; exact if_neg z
  have kq : gK G' q = k := by rw [hK]; exact if_pos rfl
  refine ⟨by rw [hI]; exact w1, hA, by rw [hR]; exact w3, by rw [hI]; exact w4, by rw [hR]; exact w5, fun x y e hx => ?_, fun a => ?_⟩
  · by_cases cx : x = q
    · by_cases cy : y = q
      · rw [cx, cy]
      · rw [cx, kq] at e hx
        rw [kn y cy] at e
        exact absurd e.symm (hk hx y)
    · by_cases cy : y = q
      · rw [cy, kq, kn x cx] at e
        rw [kn x cx, e] at hx
        exact absurd e (hk hx x)
      · rw [kn x cx, kn y cy] at e
        rw [kn x cx] at hx
        exact w6 x y e hx
  · by_cases ca : a = q
    · rw [ca, kq]
      rcases hk2 with z | z | z
      · exact Or.inr (Or.inl ⟨by omega, by omega⟩)
      · exact Or.inr (Or.inr (Or.inr (Or.inr (Or.inr (Or.inr (Or.inl z))))))
      · exact Or.inr (Or.inr (Or.inr (Or.inr (Or.inr (Or.inr (Or.inr z))))))
    · rw [kn a ca]; exact w7 a
theorem pic_newM (h : pic E G f ow) (hq : f q = none) (hno : ∀ x, gK G x ≠ 15) (hR0 : ∀ i j, gR G i j = 0) : pic E (nM G q) (va_up f q (some (.inr (15, (List.range 72).map (fun j => if mS j then .int 0 else .null))))) ow := by
  have h0 := pic_fresh h hq
  refine pic_newX (k := 15) h hq rfl (fun x z => ⟨fun _ => rfl, fun i => if_neg (fun w => z w.1), fun _ => rfl⟩) rfl rfl (by decide) ?_ (wf_new h.2.2 rfl h0 rfl h.2.2.2.1 rfl (fun _ => hno) (Or.inl rfl))
  rw [ent_model (show gK (nM G q) q = 15 from if_pos rfl)]
  congr 3
  unfold ml
  refine List.map_congr_left (fun j hj => ?_)
  unfold mv
  by_cases c : mS j = true
  · rw [if_pos c, if_pos c]
    show Value.int (i32 (gR G j 0)) = _
    rw [hR0]
    rfl
  · rw [if_neg c, if_neg c]
    show va_rf (if q = q ∧ 1500 ≤ 1500 + j then none else G.2.2.1 (1500 + j) q) = _
    rw [if_pos ⟨rfl, by omega⟩]
    rfl
theorem pic_newJ (h : pic E G f ow) (hq : f q = none) : pic E (nJ G q) (va_up f q (some (.inl (E.2.1 4, 1, .inr (.inl (fun _ => 0)))))) ow := by
  have h0 := pic_fresh h hq
  refine pic_newX (k := 26) h hq rfl (fun x z => ⟨fun _ => rfl, fun _ => rfl, fun _ => if_neg z⟩) rfl rfl (by decide) ?_ (wf_new h.2.2 rfl h0 rfl (fun a j => ?_) rfl (fun z => by omega) (Or.inr (Or.inl rfl)))
  · rw [ent_row1 (show gK (nJ G q) q = 26 from if_pos rfl)]
    have e : (fun j => Int64.ofInt (gA (nJ G q) q j)) = fun _ => 0 := funext fun j => by
      show Int64.ofInt (if q = q then 0 else _) = 0
      rw [if_pos rfl]
      rfl
    rw [e]
  · show InR (if a = q then 0 else G.2.2.2.2.1 a j)
    split
    · exact ⟨by decide, by decide⟩
    · exact h.2.2.2.1 a j
theorem pic_newR (h : pic E G f ow) (hq : f q = none) (hk : k < 72) (hs : mS k = false) (hno : ∀ x, gK G x ≠ 100 + k) (hR0 : ∀ i j, gR G i j = 0) : pic E (sK G q (100 + k)) (va_up f q (some (.inl (rcl E k, mN k, .inl (fun _ => 0))))) ow := by
  have h0 := pic_fresh h hq
  refine pic_newX (k := 100 + k) h hq rfl (fun x z => ⟨fun _ => rfl, fun _ => rfl, fun _ => rfl⟩) rfl rfl (by omega) ?_ (wf_new h.2.2 rfl h0 rfl h.2.2.2.1 rfl (fun _ => hno) (Or.inr (Or.inr ⟨by omega, by omega, by rw [Nat.add_sub_cancel_left]; exact hs⟩)))
  rw [ent_row (show gK (sK G q (100 + k)) q = 100 + k from if_pos rfl) hk]
  have e : (fun j => i32 (gR (sK G q (100 + k)) k j)) = fun _ => 0 := funext fun j => by
    show i32 (gR G k j) = 0
    rw [hR0]
    rfl
  rw [e]
end PICX
/-- what stays while the reference's rows are made -/
def rkFm (G G' : GT) (o : Nat) : Prop := (∀ x, gK G x ≠ 0 → gK G' x = gK G x) ∧ gI G' = gI G ∧ (∀ i x, i < 1500 → gP G' i x = gP G i x) ∧ gL G' = gL G ∧ gA G' = gA G ∧ gR G' = gR G
def rkMd (G0 G : GT) (o n : Nat) : Prop := rkFm G0 G o ∧ gK G o = 15 ∧ (∀ i j, gR G i j = 0) ∧ (∀ k, k < n → mS k = false → gP G (1500 + k) o = some (ra G o k) ∧ gK G (ra G o k) = 100 + k) ∧ ∀ k, n ≤ k → ∀ x, gK G x ≠ 100 + k
section CTOR
variable {E : EV} {p : Program} {l : Launch} {e : Env} {R : Room} {s : State} {m : MethodId} {args : Array Value} {below : List Frame} {meth : Method} {c : Code} {cc : ByteArray} {nL mc ms : Nat} {own : String} {ret : Option FieldType} {Q : State → Prop} {G : GT} {kc ks pc : Nat} {L : List (Option Value)} {st : List Value}
theorem hp_sPm {H H1 : Heap} {k a : Nat} {r : Option Nat} (h : hp E G H) (hm : gK G a = 15) (hs : mS k = false) (hat : va_at E.1 CL (a, .inr (15, (ml G a).set k (va_rf r))) H1) (hq : ∀ q : Nat, q ≠ a → H1[q]? = H[q]?) : hp E (sP G (1500 + k) a r) H1 := by
  have e : (ml G a).set k (va_rf r) = ml (sP G (1500 + k) a r) a := by
    refine List.ext_getElem? (fun i => ?_)
    by_cases hi : i < 72
    · by_cases hij : i = k
      · subst hij
        rw [List.getElem?_set_self (by rw [ml_len]; exact hi), ml_get hi]
        unfold mv
        rw [hs]
        show _ = some (va_rf (u2 (gP G) (1500 + i) a r (1500 + i) a))
        rw [u2_s]
      · rw [List.getElem?_set_ne (fun z => hij z.symm), ml_get hi, ml_get hi]
        unfold mv
        show some (if _ then _ else va_rf (gP G (1500 + i) a)) = some (if _ then _ else va_rf (u2 (gP G) (1500 + k) a r (1500 + i) a))
        rw [u2_k (by omega)]
        rfl
    · rw [List.getElem?_eq_none (by rw [List.length_set, ml_len]; omega), List.getElem?_eq_none (by rw [ml_len]; omega)]
  rw [e] at hat
  exact h.put (ent_model hm) (ent_model (G := sP G (1500 + k) a r) hm) rfl rfl (fun x hx => ent_eq rfl (fun _ => rfl) (fun i => u2_a hx) (fun _ => rfl) (fun _ _ _ => rfl)) h.wf hat hq
theorem rkMd_put {G0 : GT} {o n0 k q : Nat} (h : rkMd G0 G o n0) (hq : gK G q = 0) (hk : (n0 ≤ k ∧ k < 72) ∧ (∀ j, j < k → n0 ≤ j → mS j = true) ∧ mS k = false) : rkMd G0 (sP (sK G q (100 + k)) (1500 + k) o (some q)) o (k + 1) := by
  obtain ⟨⟨f1, f2, f3, f4, f5, f6⟩, h1, h2, h3, h4⟩ := h
  have hoq : o ≠ q := fun z => by rw [← z, h1] at hq; cases hq
  have kn : ∀ x, x ≠ q → gK (sP (sK G q (100 + k)) (1500 + k) o (some q)) x = gK G x := fun x hx => if_neg hx
  have kq : gK (sP (sK G q (100 + k)) (1500 + k) o (some q)) q = 100 + k := if_pos rfl
  refine ⟨⟨fun x hx => ?_, f2, fun i x hi => ?_, f4, f5, f6⟩, (kn o hoq).trans h1, h2, fun j hj hs => ?_, fun j hj x => ?_⟩
  · have hG : gK G x ≠ 0 := by rw [f1 x hx]; exact hx
    exact (kn x (fun z => hG (by rw [z]; exact hq))).trans (f1 x hx)
  · show u2 (gP G) (1500 + k) o (some q) i x = _
    rw [u2_k (by omega)]; exact f3 i x hi
  · have hp : gP (sP (sK G q (100 + k)) (1500 + k) o (some q)) (1500 + j) o = if j = k then some q else gP G (1500 + j) o := by
      show u2 (gP G) (1500 + k) o (some q) (1500 + j) o = _
      by_cases c9 : j = k
      · subst c9; rw [u2_s, if_pos rfl]
      · rw [u2_k (by omega), if_neg c9]
    by_cases c9 : j = k
    · have e1 : ra (sP (sK G q (100 + k)) (1500 + k) o (some q)) o j = q := by unfold ra; rw [hp, if_pos c9]; rfl
      rw [e1, hp, if_pos c9, kq, c9]
      exact ⟨rfl, rfl⟩
    · have hjn : j < n0 := Nat.not_le.mp fun z => by have := hk.2.1 j (by omega) z; rw [hs] at this; cases this
      obtain ⟨a1, a2⟩ := h3 j hjn hs
      have e1 : ra (sP (sK G q (100 + k)) (1500 + k) o (some q)) o j = ra G o j := by unfold ra; rw [hp, if_neg c9]
      rw [e1, hp, if_neg c9]
      exact ⟨a1, (kn _ (fun z => by rw [z, hq] at a2; omega)).trans a2⟩
  · by_cases cx : x = q
    · rw [cx, kq]; omega
    · rw [kn x cx]; exact h4 j (by omega) x
theorem x_mkI {G0 : GT} {o n0 kc0 ks0 idx : Nat} (k n : Nat) (C : CX E p R s m args meth c cc nL own mc ms ret) (hin : meth.name = "<init>") (hM : rkMd G0 G o n0) (hk : ((n0 ≤ k ∧ k < 72) ∧ (∀ j, j < k → n0 ≤ j → mS j = true) ∧ mS k = false) ∧ mZ k = false ∧ mN k < 3000) (d1 : decode cc pc = .ok (.newarray .int, 2)) (d2 : decode cc (pc + 2) = .ok (.putfield idx, 3)) (hn : pc + 5 = n) (F : FW own idx 15 k 2 true) (hkc : kc0 + 1 ≤ kc ∧ ks0 + mN k ≤ ks)
    (kk : ∀ G' : GT, rkMd G0 G' o (k + 1) → XW E p l e R s m args below meth c nL mc ms Q G' kc0 ks0 n L st) : XW E p l e R s m args below meth c nL mc ms Q G kc ks pc L (.int (i32 (mN k : Int)) :: .ref o :: st) := by
  subst hn
  refine x_raw (fun f ow h => ?_)
  intro H locs cells slots ls h1 h2 h3 h4 h5
  obtain ⟨ws, w1, w2, w3, w4⟩ := hf_ws h1
  have hR1 := C.2.2.2.2.2.2.2.2.1
  have hK := C.2.2.2.2.2.1
  have hrc : rcl E k = E.2.1 0 := by unfold rcl; rw [hk.2.1]; rfl
  rw [← i32_nI]
  refine va_newa (atype := .int) (ty := .int) (N' := mN k) (a0 := (mN k, .inl (fun _ => 0))) C.1 C.2.1 (C.2.2.2.2.1 _ (aw_i 1112 (by decide +kernel) rfl)) rfl hK w1 w2 h2 (fun q hq => Nat.le_trans C.2.2.2.2.2.2.2.1 hq) (fun cA => vp_cell_i ..) (nI_pos (by omega)) (nI_clamp (by omega)) (by have := hk.2.2; show mN k * 4 ≤ 536870912; omega) (by omega) (by omega) d1 (fun q cA H1 p0 p1 dd1 s1 => ?_)
  have hcA : cA = rcl E k := by
    have e1 := (p0.2 5 (cA, .int) rfl).2
    have e2 := (hK.2 0 _ rfl).2
    rw [hrc]
    exact Option.some.inj (e1.symm.trans e2)
  subst hcA
  obtain ⟨z1, z2⟩ := hf_push w3 h1.lo p1 dd1
  have hfq := pic_fresh h z1
  have hp1 : hp E (sK G q (100 + k)) H1 := pic_hp z2 (pic_newR h z1 hk.1.1.2 hk.1.2.2 (hM.2.2.2.2 k hk.1.1.1) hM.2.2.1)
  have hoq : o ≠ q := fun z => by have := hM.2.1; rw [z, hfq] at this; cases this
  have hm1 : gK (sK G q (100 + k)) o = 15 := (show va_up (gK G) q (100 + k) o = _ from if_neg hoq).trans hM.2.1
  obtain ⟨g1, g2⟩ := hp1.get (ent_model hm1)
  refine w_putF C F hin g1 (by rw [ml_len]; exact hk.1.1.2) (fits_ref (v := some q)) d2 (fun H2 sl a1 a2 a3 => ?_)
  exact kk _ (rkMd_put hM hfq hk.1) H2 _ (cells + 1) (slots + mN k) ls (hp_sPm hp1 hm1 hk.1.2.2 a1 a3) (s1.put a2 a3 g2) h3 (by omega) (by omega)
theorem x_mkZ {G0 : GT} {o n0 kc0 ks0 idx : Nat} (k n : Nat) (C : CX E p R s m args meth c cc nL own mc ms ret) (hin : meth.name = "<init>") (hM : rkMd G0 G o n0) (hk : ((n0 ≤ k ∧ k < 72) ∧ (∀ j, j < k → n0 ≤ j → mS j = true) ∧ mS k = false) ∧ mZ k = true ∧ mN k < 3000) (d1 : decode cc pc = .ok (.newarray .boolean, 2)) (d2 : decode cc (pc + 2) = .ok (.putfield idx, 3)) (hn : pc + 5 = n) (F : FW own idx 15 k 2 true) (hkc : kc0 + 1 ≤ kc ∧ ks0 + mN k ≤ ks)
    (kk : ∀ G' : GT, rkMd G0 G' o (k + 1) → XW E p l e R s m args below meth c nL mc ms Q G' kc0 ks0 n L st) : XW E p l e R s m args below meth c nL mc ms Q G kc ks pc L (.int (i32 (mN k : Int)) :: .ref o :: st) := by
  subst hn
  refine x_raw (fun f ow h => ?_)
  intro H locs cells slots ls h1 h2 h3 h4 h5
  obtain ⟨ws, w1, w2, w3, w4⟩ := hf_ws h1
  have hR1 := C.2.2.2.2.2.2.2.2.1
  have hK := C.2.2.2.2.2.1
  have hrc : rcl E k = E.2.1 1 := by unfold rcl; rw [hk.2.1]; rfl
  rw [← i32_nI]
  refine va_newa (atype := .boolean) (ty := .boolean) (N' := mN k) (a0 := (mN k, .inl (fun _ => 0))) C.1 C.2.1 (C.2.2.2.2.1 _ (aw_i 1660 (by decide +kernel) rfl)) rfl hK w1 w2 h2 (fun q hq => Nat.le_trans C.2.2.2.2.2.2.2.1 hq) (fun cA => vp_cell_i ..) (nI_pos (by omega)) (nI_clamp (by omega)) (by have := hk.2.2; show mN k * 1 ≤ 536870912; omega) (by omega) (by omega) d1 (fun q cA H1 p0 p1 dd1 s1 => ?_)
  have hcA : cA = rcl E k := by
    have e1 := (p0.2 5 (cA, .boolean) rfl).2
    have e2 := (hK.2 1 _ rfl).2
    rw [hrc]
    exact Option.some.inj (e1.symm.trans e2)
  subst hcA
  obtain ⟨z1, z2⟩ := hf_push w3 h1.lo p1 dd1
  have hfq := pic_fresh h z1
  have hp1 : hp E (sK G q (100 + k)) H1 := pic_hp z2 (pic_newR h z1 hk.1.1.2 hk.1.2.2 (hM.2.2.2.2 k hk.1.1.1) hM.2.2.1)
  have hoq : o ≠ q := fun z => by have := hM.2.1; rw [z, hfq] at this; cases this
  have hm1 : gK (sK G q (100 + k)) o = 15 := (show va_up (gK G) q (100 + k) o = _ from if_neg hoq).trans hM.2.1
  obtain ⟨g1, g2⟩ := hp1.get (ent_model hm1)
  refine w_putF C F hin g1 (by rw [ml_len]; exact hk.1.1.2) (fits_ref (v := some q)) d2 (fun H2 sl a1 a2 a3 => ?_)
  exact kk _ (rkMd_put hM hfq hk.1) H2 _ (cells + 1) (slots + mN k) ls (hp_sPm hp1 hm1 hk.1.2.2 a1 a3) (s1.put a2 a3 g2) h3 (by omega) (by omega)
theorem x_newM (n : Nat) {idx kc0 ks0 : Nat} {Cn : String} {fs : List Value} (C : CX E p R s m args meth c cc nL own mc ms ret) (F : NWd own idx 15 Cn 72 fs) (hfs : (List.range 72).map (fun j => if mS j then .int 0 else .null) = fs) (d : decode cc pc = .ok (.new idx, 3)) (hn : pc + 3 = n) (hk : kc0 + 1 ≤ kc ∧ ks0 + 72 ≤ ks) (hno : ∀ x, gK G x ≠ 15) (hR0 : ∀ i j, gR G i j = 0)
    (k : ∀ q, gK G q = 0 → XW E p l e R s m args below meth c nL mc ms Q (nM G q) kc0 ks0 n L (.ref q :: st)) : XW E p l e R s m args below meth c nL mc ms Q G kc ks pc L st := by
  subst hfs
  exact x_raw (fun f ow h => y_new n C F d hn hk (fun q hq => y_back (pic_newM h hq hno hR0) (k q (pic_fresh h hq))))
theorem x_newJ (n : Nat) {kc0 ks0 : Nat} (C : CX E p R s m args meth c cc nL own mc ms ret) (d : decode cc pc = .ok (.newarray .long, 2)) (hn : pc + 2 = n) (hk : kc0 + 1 ≤ kc ∧ ks0 + 1 ≤ ks)
    (k : ∀ q, gK G q = 0 → XW E p l e R s m args below meth c nL mc ms Q (nJ G q) kc0 ks0 n L (.ref q :: st)) : XW E p l e R s m args below meth c nL mc ms Q G kc ks pc L (.int (i32 1) :: st) := by
  subst hn
  refine x_raw (fun f ow h => ?_)
  intro H locs cells slots ls h1 h2 h3 h4 h5
  obtain ⟨ws, w1, w2, w3, w4⟩ := hf_ws h1
  have hR1 := C.2.2.2.2.2.2.2.2.1
  have hK := C.2.2.2.2.2.1
  have e10 : i32 1 = nI 1 := (i32_nI 1).symm
  rw [e10]
  refine va_newa (atype := .long) (ty := .long) (N' := 1) (a0 := (1, .inr (.inl (fun _ => 0)))) C.1 C.2.1 (C.2.2.2.2.1 _ (aw_i 1933 (by decide +kernel) rfl)) rfl hK w1 w2 h2 (fun q hq => Nat.le_trans C.2.2.2.2.2.2.2.1 hq) (fun cA => vp_cell_l ..) (nI_pos (by omega)) (nI_clamp (by omega)) (by decide) (by omega) (by omega) d (fun q cA H1 p0 p1 d1 s1 => ?_)
  have hcA : cA = E.2.1 4 := by
    have e1 := (p0.2 5 (cA, .long) rfl).2
    have e2 := (hK.2 4 _ rfl).2
    exact Option.some.inj (e1.symm.trans e2)
  subst hcA
  obtain ⟨z1, z2⟩ := hf_push w3 h1.lo p1 d1
  exact k q (pic_fresh h z1) H1 locs _ _ ls (pic_hp z2 (pic_newJ h z1)) s1 h3 (by omega) (by omega)
end CTOR
theorem ob_X12_1 : Cond.methodLink RX12 1 Lib.objectInit ∈ AW := aw_i 1442 (by decide +kernel) rfl
set_option maxHeartbeats 4000000 in
set_option maxRecDepth 100000 in
theorem c_X12_init {E : EV} {l : Launch} {G0 G : GT} {o : Nat} (hM : rkMd G0 G o 0) : MT E l yX12_init cX12_init 1 none 2 40 50 5590 [.ref o] G (fun v G' => v = none ∧ rkMd G0 G' o 71) := by
  refine mt_of (own := RX12) (L := [some (.ref o)]) (by decide +kernel) rfl (Nat.le_of_ble_eq_true rfl) (List.forall_mem_cons.mpr ⟨rfl, (fun _ h => absurd h List.not_mem_nil)⟩) rfl ?_
  intro p e s m args below meth c C hin
  refine x_aload_n 1 C dX12_init_0 rfl rfl ?_
  refine x_objInit 4 C ob_X12_1 ⟨Nat.le_of_ble_eq_true rfl, Nat.le_of_ble_eq_true rfl⟩ dX12_init_1 rfl ?_
  refine x_aload_n 5 C dX12_init_4 rfl rfl ?_
  refine x_bipush 7 C dX12_init_5 rfl (by decide) ?_
  refine x_mkI (n0 := 0) (kc0 := 49) (ks0 := 5574) 4 12 C hin hM ⟨⟨⟨by decide, by decide⟩, by decide, rfl⟩, rfl, by decide⟩ dX12_init_7 dX12_init_9 rfl fw_X12_7 ⟨by omega, Nat.le_of_ble_eq_true rfl⟩ (fun G4 hM => ?_)
  refine x_aload_n 13 C dX12_init_12 rfl rfl ?_
  refine x_bipush 15 C dX12_init_13 rfl (by decide) ?_
  refine x_mkI (n0 := 5) (kc0 := 48) (ks0 := 5558) 5 20 C hin hM ⟨⟨⟨by decide, by decide⟩, by decide, rfl⟩, rfl, by decide⟩ dX12_init_15 dX12_init_17 rfl fw_X12_13 ⟨by omega, Nat.le_of_ble_eq_true rfl⟩ (fun G5 hM => ?_)
  refine x_aload_n 21 C dX12_init_20 rfl rfl ?_
  refine x_bipush 23 C dX12_init_21 rfl (by decide) ?_
  refine x_mkZ (n0 := 6) (kc0 := 47) (ks0 := 5542) 6 28 C hin hM ⟨⟨⟨by decide, by decide⟩, by decide, rfl⟩, rfl, by decide⟩ dX12_init_23 dX12_init_25 rfl fw_X12_16 ⟨by omega, Nat.le_of_ble_eq_true rfl⟩ (fun G6 hM => ?_)
  refine x_aload_n 29 C dX12_init_28 rfl rfl ?_
  refine x_bipush 31 C dX12_init_29 rfl (by decide) ?_
  refine x_mkI (n0 := 7) (kc0 := 46) (ks0 := 5518) 8 36 C hin hM ⟨⟨⟨by decide, by decide⟩, by decide, rfl⟩, rfl, by decide⟩ dX12_init_31 dX12_init_33 rfl fw_X12_20 ⟨by omega, Nat.le_of_ble_eq_true rfl⟩ (fun G8 hM => ?_)
  refine x_aload_n 37 C dX12_init_36 rfl rfl ?_
  refine x_bipush 39 C dX12_init_37 rfl (by decide) ?_
  refine x_mkI (n0 := 9) (kc0 := 45) (ks0 := 5494) 9 44 C hin hM ⟨⟨⟨by decide, by decide⟩, by decide, rfl⟩, rfl, by decide⟩ dX12_init_39 dX12_init_41 rfl fw_X12_23 ⟨by omega, Nat.le_of_ble_eq_true rfl⟩ (fun G9 hM => ?_)
  refine x_aload_n 45 C dX12_init_44 rfl rfl ?_
  refine x_bipush 47 C dX12_init_45 rfl (by decide) ?_
  refine x_mkI (n0 := 10) (kc0 := 44) (ks0 := 5470) 10 52 C hin hM ⟨⟨⟨by decide, by decide⟩, by decide, rfl⟩, rfl, by decide⟩ dX12_init_47 dX12_init_49 rfl fw_X12_26 ⟨by omega, Nat.le_of_ble_eq_true rfl⟩ (fun G10 hM => ?_)
  refine x_aload_n 53 C dX12_init_52 rfl rfl ?_
  refine x_bipush 55 C dX12_init_53 rfl (by decide) ?_
  refine x_mkI (n0 := 11) (kc0 := 43) (ks0 := 5446) 11 60 C hin hM ⟨⟨⟨by decide, by decide⟩, by decide, rfl⟩, rfl, by decide⟩ dX12_init_55 dX12_init_57 rfl fw_X12_29 ⟨by omega, Nat.le_of_ble_eq_true rfl⟩ (fun G11 hM => ?_)
  refine x_aload_n 61 C dX12_init_60 rfl rfl ?_
  refine x_bipush 63 C dX12_init_61 rfl (by decide) ?_
  refine x_mkI (n0 := 12) (kc0 := 42) (ks0 := 5422) 12 68 C hin hM ⟨⟨⟨by decide, by decide⟩, by decide, rfl⟩, rfl, by decide⟩ dX12_init_63 dX12_init_65 rfl fw_X12_32 ⟨by omega, Nat.le_of_ble_eq_true rfl⟩ (fun G12 hM => ?_)
  refine x_aload_n 69 C dX12_init_68 rfl rfl ?_
  refine x_bipush 71 C dX12_init_69 rfl (by decide) ?_
  refine x_mkI (n0 := 13) (kc0 := 41) (ks0 := 5398) 13 76 C hin hM ⟨⟨⟨by decide, by decide⟩, by decide, rfl⟩, rfl, by decide⟩ dX12_init_71 dX12_init_73 rfl fw_X12_35 ⟨by omega, Nat.le_of_ble_eq_true rfl⟩ (fun G13 hM => ?_)
  refine x_aload_n 77 C dX12_init_76 rfl rfl ?_
  refine x_bipush 79 C dX12_init_77 rfl (by decide) ?_
  refine x_mkI (n0 := 14) (kc0 := 40) (ks0 := 5374) 14 84 C hin hM ⟨⟨⟨by decide, by decide⟩, by decide, rfl⟩, rfl, by decide⟩ dX12_init_79 dX12_init_81 rfl fw_X12_38 ⟨by omega, Nat.le_of_ble_eq_true rfl⟩ (fun G14 hM => ?_)
  refine x_aload_n 85 C dX12_init_84 rfl rfl ?_
  refine x_bipush 87 C dX12_init_85 rfl (by decide) ?_
  refine x_mkZ (n0 := 15) (kc0 := 39) (ks0 := 5350) 15 92 C hin hM ⟨⟨⟨by decide, by decide⟩, by decide, rfl⟩, rfl, by decide⟩ dX12_init_87 dX12_init_89 rfl fw_X12_41 ⟨by omega, Nat.le_of_ble_eq_true rfl⟩ (fun G15 hM => ?_)
  refine x_aload_n 93 C dX12_init_92 rfl rfl ?_
  refine x_bipush 95 C dX12_init_93 rfl (by decide) ?_
  refine x_mkI (n0 := 16) (kc0 := 38) (ks0 := 5326) 16 100 C hin hM ⟨⟨⟨by decide, by decide⟩, by decide, rfl⟩, rfl, by decide⟩ dX12_init_95 dX12_init_97 rfl fw_X12_44 ⟨by omega, Nat.le_of_ble_eq_true rfl⟩ (fun G16 hM => ?_)
  refine x_aload_n 101 C dX12_init_100 rfl rfl ?_
  refine x_bipush 103 C dX12_init_101 rfl (by decide) ?_
  refine x_mkI (n0 := 17) (kc0 := 37) (ks0 := 5302) 17 108 C hin hM ⟨⟨⟨by decide, by decide⟩, by decide, rfl⟩, rfl, by decide⟩ dX12_init_103 dX12_init_105 rfl fw_X12_47 ⟨by omega, Nat.le_of_ble_eq_true rfl⟩ (fun G17 hM => ?_)
  refine x_aload_n 109 C dX12_init_108 rfl rfl ?_
  refine x_bipush 111 C dX12_init_109 rfl (by decide) ?_
  refine x_mkI (n0 := 18) (kc0 := 36) (ks0 := 5278) 18 116 C hin hM ⟨⟨⟨by decide, by decide⟩, by decide, rfl⟩, rfl, by decide⟩ dX12_init_111 dX12_init_113 rfl fw_X12_50 ⟨by omega, Nat.le_of_ble_eq_true rfl⟩ (fun G18 hM => ?_)
  refine x_aload_n 117 C dX12_init_116 rfl rfl ?_
  refine x_bipush 119 C dX12_init_117 rfl (by decide) ?_
  refine x_mkI (n0 := 19) (kc0 := 35) (ks0 := 5254) 19 124 C hin hM ⟨⟨⟨by decide, by decide⟩, by decide, rfl⟩, rfl, by decide⟩ dX12_init_119 dX12_init_121 rfl fw_X12_53 ⟨by omega, Nat.le_of_ble_eq_true rfl⟩ (fun G19 hM => ?_)
  refine x_aload_n 125 C dX12_init_124 rfl rfl ?_
  refine x_bipush 127 C dX12_init_125 rfl (by decide) ?_
  refine x_mkI (n0 := 20) (kc0 := 34) (ks0 := 5230) 20 132 C hin hM ⟨⟨⟨by decide, by decide⟩, by decide, rfl⟩, rfl, by decide⟩ dX12_init_127 dX12_init_129 rfl fw_X12_56 ⟨by omega, Nat.le_of_ble_eq_true rfl⟩ (fun G20 hM => ?_)
  refine x_aload_n 133 C dX12_init_132 rfl rfl ?_
  refine x_bipush 135 C dX12_init_133 rfl (by decide) ?_
  refine x_mkI (n0 := 21) (kc0 := 33) (ks0 := 5206) 21 140 C hin hM ⟨⟨⟨by decide, by decide⟩, by decide, rfl⟩, rfl, by decide⟩ dX12_init_135 dX12_init_137 rfl fw_X12_59 ⟨by omega, Nat.le_of_ble_eq_true rfl⟩ (fun G21 hM => ?_)
  refine x_aload_n 141 C dX12_init_140 rfl rfl ?_
  refine x_bipush 143 C dX12_init_141 rfl (by decide) ?_
  refine x_mkI (n0 := 22) (kc0 := 32) (ks0 := 5182) 22 148 C hin hM ⟨⟨⟨by decide, by decide⟩, by decide, rfl⟩, rfl, by decide⟩ dX12_init_143 dX12_init_145 rfl fw_X12_62 ⟨by omega, Nat.le_of_ble_eq_true rfl⟩ (fun G22 hM => ?_)
  refine x_aload_n 149 C dX12_init_148 rfl rfl ?_
  refine x_bipush 151 C dX12_init_149 rfl (by decide) ?_
  refine x_mkI (n0 := 23) (kc0 := 31) (ks0 := 5158) 23 156 C hin hM ⟨⟨⟨by decide, by decide⟩, by decide, rfl⟩, rfl, by decide⟩ dX12_init_151 dX12_init_153 rfl fw_X12_65 ⟨by omega, Nat.le_of_ble_eq_true rfl⟩ (fun G23 hM => ?_)
  refine x_aload_n 157 C dX12_init_156 rfl rfl ?_
  refine x_bipush 159 C dX12_init_157 rfl (by decide) ?_
  refine x_mkI (n0 := 24) (kc0 := 30) (ks0 := 5150) 25 164 C hin hM ⟨⟨⟨by decide, by decide⟩, by decide, rfl⟩, rfl, by decide⟩ dX12_init_159 dX12_init_161 rfl fw_X12_68 ⟨by omega, Nat.le_of_ble_eq_true rfl⟩ (fun G25 hM => ?_)
  refine x_aload_n 165 C dX12_init_164 rfl rfl ?_
  refine x_bipush 167 C dX12_init_165 rfl (by decide) ?_
  refine x_mkI (n0 := 26) (kc0 := 29) (ks0 := 5142) 26 172 C hin hM ⟨⟨⟨by decide, by decide⟩, by decide, rfl⟩, rfl, by decide⟩ dX12_init_167 dX12_init_169 rfl fw_X12_71 ⟨by omega, Nat.le_of_ble_eq_true rfl⟩ (fun G26 hM => ?_)
  refine x_aload_n 173 C dX12_init_172 rfl rfl ?_
  refine x_bipush 175 C dX12_init_173 rfl (by decide) ?_
  refine x_mkI (n0 := 27) (kc0 := 28) (ks0 := 5134) 27 180 C hin hM ⟨⟨⟨by decide, by decide⟩, by decide, rfl⟩, rfl, by decide⟩ dX12_init_175 dX12_init_177 rfl fw_X12_74 ⟨by omega, Nat.le_of_ble_eq_true rfl⟩ (fun G27 hM => ?_)
  refine x_aload_n 181 C dX12_init_180 rfl rfl ?_
  refine x_bipush 183 C dX12_init_181 rfl (by decide) ?_
  refine x_mkI (n0 := 28) (kc0 := 27) (ks0 := 5094) 29 188 C hin hM ⟨⟨⟨by decide, by decide⟩, by decide, rfl⟩, rfl, by decide⟩ dX12_init_183 dX12_init_185 rfl fw_X12_77 ⟨by omega, Nat.le_of_ble_eq_true rfl⟩ (fun G29 hM => ?_)
  refine x_aload_n 189 C dX12_init_188 rfl rfl ?_
  refine x_bipush 191 C dX12_init_189 rfl (by decide) ?_
  refine x_mkI (n0 := 30) (kc0 := 26) (ks0 := 5054) 30 196 C hin hM ⟨⟨⟨by decide, by decide⟩, by decide, rfl⟩, rfl, by decide⟩ dX12_init_191 dX12_init_193 rfl fw_X12_80 ⟨by omega, Nat.le_of_ble_eq_true rfl⟩ (fun G30 hM => ?_)
  refine x_aload_n 197 C dX12_init_196 rfl rfl ?_
  refine x_sipush 200 C dX12_init_197 rfl (by decide) ?_
  refine x_mkI (n0 := 31) (kc0 := 25) (ks0 := 4814) 31 205 C hin hM ⟨⟨⟨by decide, by decide⟩, by decide, rfl⟩, rfl, by decide⟩ dX12_init_200 dX12_init_202 rfl fw_X12_83 ⟨by omega, Nat.le_of_ble_eq_true rfl⟩ (fun G31 hM => ?_)
  refine x_aload_n 206 C dX12_init_205 rfl rfl ?_
  refine x_sipush 209 C dX12_init_206 rfl (by decide) ?_
  refine x_mkI (n0 := 32) (kc0 := 24) (ks0 := 4574) 32 214 C hin hM ⟨⟨⟨by decide, by decide⟩, by decide, rfl⟩, rfl, by decide⟩ dX12_init_209 dX12_init_211 rfl fw_X12_86 ⟨by omega, Nat.le_of_ble_eq_true rfl⟩ (fun G32 hM => ?_)
  refine x_aload_n 215 C dX12_init_214 rfl rfl ?_
  refine x_sipush 218 C dX12_init_215 rfl (by decide) ?_
  refine x_mkI (n0 := 33) (kc0 := 23) (ks0 := 1694) 33 223 C hin hM ⟨⟨⟨by decide, by decide⟩, by decide, rfl⟩, rfl, by decide⟩ dX12_init_218 dX12_init_220 rfl fw_X12_89 ⟨by omega, Nat.le_of_ble_eq_true rfl⟩ (fun G33 hM => ?_)
  refine x_aload_n 224 C dX12_init_223 rfl rfl ?_
  refine x_bipush 226 C dX12_init_224 rfl (by decide) ?_
  refine x_mkI (n0 := 34) (kc0 := 22) (ks0 := 1682) 35 231 C hin hM ⟨⟨⟨by decide, by decide⟩, by decide, rfl⟩, rfl, by decide⟩ dX12_init_226 dX12_init_228 rfl fw_X12_92 ⟨by omega, Nat.le_of_ble_eq_true rfl⟩ (fun G35 hM => ?_)
  refine x_aload_n 232 C dX12_init_231 rfl rfl ?_
  refine x_bipush 234 C dX12_init_232 rfl (by decide) ?_
  refine x_mkI (n0 := 36) (kc0 := 21) (ks0 := 1670) 36 239 C hin hM ⟨⟨⟨by decide, by decide⟩, by decide, rfl⟩, rfl, by decide⟩ dX12_init_234 dX12_init_236 rfl fw_X12_95 ⟨by omega, Nat.le_of_ble_eq_true rfl⟩ (fun G36 hM => ?_)
  refine x_aload_n 240 C dX12_init_239 rfl rfl ?_
  refine x_bipush 242 C dX12_init_240 rfl (by decide) ?_
  refine x_mkI (n0 := 37) (kc0 := 20) (ks0 := 1658) 37 247 C hin hM ⟨⟨⟨by decide, by decide⟩, by decide, rfl⟩, rfl, by decide⟩ dX12_init_242 dX12_init_244 rfl fw_X12_98 ⟨by omega, Nat.le_of_ble_eq_true rfl⟩ (fun G37 hM => ?_)
  refine x_aload_n 248 C dX12_init_247 rfl rfl ?_
  refine x_bipush 250 C dX12_init_248 rfl (by decide) ?_
  refine x_mkZ (n0 := 38) (kc0 := 19) (ks0 := 1646) 38 255 C hin hM ⟨⟨⟨by decide, by decide⟩, by decide, rfl⟩, rfl, by decide⟩ dX12_init_250 dX12_init_252 rfl fw_X12_101 ⟨by omega, Nat.le_of_ble_eq_true rfl⟩ (fun G38 hM => ?_)
  refine x_aload_n 256 C dX12_init_255 rfl rfl ?_
  refine x_bipush 258 C dX12_init_256 rfl (by decide) ?_
  refine x_mkI (n0 := 39) (kc0 := 18) (ks0 := 1634) 39 263 C hin hM ⟨⟨⟨by decide, by decide⟩, by decide, rfl⟩, rfl, by decide⟩ dX12_init_258 dX12_init_260 rfl fw_X12_104 ⟨by omega, Nat.le_of_ble_eq_true rfl⟩ (fun G39 hM => ?_)
  refine x_aload_n 264 C dX12_init_263 rfl rfl ?_
  refine x_bipush 266 C dX12_init_264 rfl (by decide) ?_
  refine x_mkI (n0 := 40) (kc0 := 17) (ks0 := 1622) 40 271 C hin hM ⟨⟨⟨by decide, by decide⟩, by decide, rfl⟩, rfl, by decide⟩ dX12_init_266 dX12_init_268 rfl fw_X12_107 ⟨by omega, Nat.le_of_ble_eq_true rfl⟩ (fun G40 hM => ?_)
  refine x_aload_n 272 C dX12_init_271 rfl rfl ?_
  refine x_bipush 274 C dX12_init_272 rfl (by decide) ?_
  refine x_mkI (n0 := 41) (kc0 := 16) (ks0 := 1610) 41 279 C hin hM ⟨⟨⟨by decide, by decide⟩, by decide, rfl⟩, rfl, by decide⟩ dX12_init_274 dX12_init_276 rfl fw_X12_110 ⟨by omega, Nat.le_of_ble_eq_true rfl⟩ (fun G41 hM => ?_)
  refine x_aload_n 280 C dX12_init_279 rfl rfl ?_
  refine x_bipush 282 C dX12_init_280 rfl (by decide) ?_
  refine x_mkI (n0 := 42) (kc0 := 15) (ks0 := 1598) 42 287 C hin hM ⟨⟨⟨by decide, by decide⟩, by decide, rfl⟩, rfl, by decide⟩ dX12_init_282 dX12_init_284 rfl fw_X12_113 ⟨by omega, Nat.le_of_ble_eq_true rfl⟩ (fun G42 hM => ?_)
  refine x_aload_n 288 C dX12_init_287 rfl rfl ?_
  refine x_bipush 290 C dX12_init_288 rfl (by decide) ?_
  refine x_mkI (n0 := 43) (kc0 := 14) (ks0 := 1586) 43 295 C hin hM ⟨⟨⟨by decide, by decide⟩, by decide, rfl⟩, rfl, by decide⟩ dX12_init_290 dX12_init_292 rfl fw_X12_116 ⟨by omega, Nat.le_of_ble_eq_true rfl⟩ (fun G43 hM => ?_)
  refine x_aload_n 296 C dX12_init_295 rfl rfl ?_
  refine x_bipush 298 C dX12_init_296 rfl (by decide) ?_
  refine x_mkI (n0 := 44) (kc0 := 13) (ks0 := 1580) 46 303 C hin hM ⟨⟨⟨by decide, by decide⟩, by decide, rfl⟩, rfl, by decide⟩ dX12_init_298 dX12_init_300 rfl fw_X12_119 ⟨by omega, Nat.le_of_ble_eq_true rfl⟩ (fun G46 hM => ?_)
  refine x_aload_n 304 C dX12_init_303 rfl rfl ?_
  refine x_bipush 306 C dX12_init_304 rfl (by decide) ?_
  refine x_mkI (n0 := 47) (kc0 := 12) (ks0 := 1574) 47 311 C hin hM ⟨⟨⟨by decide, by decide⟩, by decide, rfl⟩, rfl, by decide⟩ dX12_init_306 dX12_init_308 rfl fw_X12_122 ⟨by omega, Nat.le_of_ble_eq_true rfl⟩ (fun G47 hM => ?_)
  refine x_aload_n 312 C dX12_init_311 rfl rfl ?_
  refine x_bipush 314 C dX12_init_312 rfl (by decide) ?_
  refine x_mkI (n0 := 48) (kc0 := 11) (ks0 := 1568) 48 319 C hin hM ⟨⟨⟨by decide, by decide⟩, by decide, rfl⟩, rfl, by decide⟩ dX12_init_314 dX12_init_316 rfl fw_X12_125 ⟨by omega, Nat.le_of_ble_eq_true rfl⟩ (fun G48 hM => ?_)
  refine x_aload_n 320 C dX12_init_319 rfl rfl ?_
  refine x_bipush 322 C dX12_init_320 rfl (by decide) ?_
  refine x_mkZ (n0 := 49) (kc0 := 10) (ks0 := 1562) 49 327 C hin hM ⟨⟨⟨by decide, by decide⟩, by decide, rfl⟩, rfl, by decide⟩ dX12_init_322 dX12_init_324 rfl fw_X12_128 ⟨by omega, Nat.le_of_ble_eq_true rfl⟩ (fun G49 hM => ?_)
  refine x_aload_n 328 C dX12_init_327 rfl rfl ?_
  refine x_bipush 330 C dX12_init_328 rfl (by decide) ?_
  refine x_mkI (n0 := 50) (kc0 := 9) (ks0 := 1556) 50 335 C hin hM ⟨⟨⟨by decide, by decide⟩, by decide, rfl⟩, rfl, by decide⟩ dX12_init_330 dX12_init_332 rfl fw_X12_131 ⟨by omega, Nat.le_of_ble_eq_true rfl⟩ (fun G50 hM => ?_)
  refine x_aload_n 336 C dX12_init_335 rfl rfl ?_
  refine x_bipush 338 C dX12_init_336 rfl (by decide) ?_
  refine x_mkI (n0 := 51) (kc0 := 8) (ks0 := 1550) 51 343 C hin hM ⟨⟨⟨by decide, by decide⟩, by decide, rfl⟩, rfl, by decide⟩ dX12_init_338 dX12_init_340 rfl fw_X12_134 ⟨by omega, Nat.le_of_ble_eq_true rfl⟩ (fun G51 hM => ?_)
  refine x_aload_n 344 C dX12_init_343 rfl rfl ?_
  refine x_bipush 346 C dX12_init_344 rfl (by decide) ?_
  refine x_mkI (n0 := 52) (kc0 := 7) (ks0 := 1544) 52 351 C hin hM ⟨⟨⟨by decide, by decide⟩, by decide, rfl⟩, rfl, by decide⟩ dX12_init_346 dX12_init_348 rfl fw_X12_137 ⟨by omega, Nat.le_of_ble_eq_true rfl⟩ (fun G52 hM => ?_)
  refine x_aload_n 352 C dX12_init_351 rfl rfl ?_
  refine x_sipush 355 C dX12_init_352 rfl (by decide) ?_
  refine x_mkI (n0 := 53) (kc0 := 6) (ks0 := 1288) 55 360 C hin hM ⟨⟨⟨by decide, by decide⟩, by decide, rfl⟩, rfl, by decide⟩ dX12_init_355 dX12_init_357 rfl fw_X12_140 ⟨by omega, Nat.le_of_ble_eq_true rfl⟩ (fun G55 hM => ?_)
  refine x_aload_n 361 C dX12_init_360 rfl rfl ?_
  refine x_sipush 364 C dX12_init_361 rfl (by decide) ?_
  refine x_mkI (n0 := 56) (kc0 := 5) (ks0 := 1032) 56 369 C hin hM ⟨⟨⟨by decide, by decide⟩, by decide, rfl⟩, rfl, by decide⟩ dX12_init_364 dX12_init_366 rfl fw_X12_143 ⟨by omega, Nat.le_of_ble_eq_true rfl⟩ (fun G56 hM => ?_)
  refine x_aload_n 370 C dX12_init_369 rfl rfl ?_
  refine x_sipush 373 C dX12_init_370 rfl (by decide) ?_
  refine x_mkZ (n0 := 57) (kc0 := 4) (ks0 := 776) 57 378 C hin hM ⟨⟨⟨by decide, by decide⟩, by decide, rfl⟩, rfl, by decide⟩ dX12_init_373 dX12_init_375 rfl fw_X12_146 ⟨by omega, Nat.le_of_ble_eq_true rfl⟩ (fun G57 hM => ?_)
  refine x_aload_n 379 C dX12_init_378 rfl rfl ?_
  refine x_sipush 382 C dX12_init_379 rfl (by decide) ?_
  refine x_mkI (n0 := 58) (kc0 := 3) (ks0 := 520) 58 387 C hin hM ⟨⟨⟨by decide, by decide⟩, by decide, rfl⟩, rfl, by decide⟩ dX12_init_382 dX12_init_384 rfl fw_X12_149 ⟨by omega, Nat.le_of_ble_eq_true rfl⟩ (fun G58 hM => ?_)
  refine x_aload_n 388 C dX12_init_387 rfl rfl ?_
  refine x_sipush 391 C dX12_init_388 rfl (by decide) ?_
  refine x_mkI (n0 := 59) (kc0 := 2) (ks0 := 264) 59 396 C hin hM ⟨⟨⟨by decide, by decide⟩, by decide, rfl⟩, rfl, by decide⟩ dX12_init_391 dX12_init_393 rfl fw_X12_152 ⟨by omega, Nat.le_of_ble_eq_true rfl⟩ (fun G59 hM => ?_)
  refine x_aload_n 397 C dX12_init_396 rfl rfl ?_
  refine x_sipush 400 C dX12_init_397 rfl (by decide) ?_
  refine x_mkI (n0 := 60) (kc0 := 1) (ks0 := 8) 60 405 C hin hM ⟨⟨⟨by decide, by decide⟩, by decide, rfl⟩, rfl, by decide⟩ dX12_init_400 dX12_init_402 rfl fw_X12_155 ⟨by omega, Nat.le_of_ble_eq_true rfl⟩ (fun G60 hM => ?_)
  refine x_aload_n 406 C dX12_init_405 rfl rfl ?_
  refine x_bipush 408 C dX12_init_406 rfl (by decide) ?_
  refine x_mkI (n0 := 61) (kc0 := 0) (ks0 := 0) 70 413 C hin hM ⟨⟨⟨by decide, by decide⟩, by decide, rfl⟩, rfl, by decide⟩ dX12_init_408 dX12_init_410 rfl fw_X12_158 ⟨by omega, Nat.le_of_ble_eq_true rfl⟩ (fun G70 hM => ?_)
  exact x_ret C dX12_init_413 ⟨rfl, hM⟩
