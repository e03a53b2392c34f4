/-! the raw picture under the picture: from one to the other and back -/
def pic (E : EV) (G : GT) (f : FT) (ow : Nat → Nat) : Prop := (∀ a e, ent E G a = some e → f a = some e) ∧ (∀ a, cmp E G f ow a) ∧ wfG G
theorem pic_hp {E : EV} {G : GT} {f : FT} {ow : Nat → Nat} {H : Heap} (h1 : hf E f H) (h2 : pic E G f ow) : hp E G H := ⟨f, ow, h1, h2.1, h2.2.1, h2.2.2⟩
section XP
variable {E : EV} {p : Program} {l : Launch} {e : Env} {R : Room} {s : State} {m : MethodId} {args : Array Value} {below : List Frame} {meth : Method} {c : Code} {nL mc ms : Nat} {Q : State → Prop} {G : GT} {kc ks pc : Nat} {L : List (Option Value)} {st : List Value}
theorem x_raw (k : ∀ (f : FT) (ow : Nat → Nat), pic E G f ow → YW E p l e R s m args below meth c nL mc ms Q f kc ks pc L st) : XW E p l e R s m args below meth c nL mc ms Q G kc ks pc L st := by
  intro H locs cells slots ls h1 h2 h3 h4 h5
  obtain ⟨f, ow, g1, g2, g3, g4⟩ := h1
  exact k f ow ⟨g2, g3, g4⟩ H locs cells slots ls g1 h2 h3 h4 h5
theorem y_back {f : FT} {ow : Nat → Nat} (h : pic E G f ow) (k : XW E p l e R s m args below meth c nL mc ms Q G kc ks pc L st) : YW E p l e R s m args below meth c nL mc ms Q f kc ks pc L st := by
  intro H locs cells slots ls h1 h2 h3 h4 h5
  exact k H locs cells slots ls (pic_hp h1 h) h2 h3 h4 h5
end XP
theorem pic_fresh {E : EV} {G : GT} {f : FT} {ow : Nat → Nat} (h : pic E G f ow) {q : Nat} (hq : f q = none) : gK G q = 0 := by
  have no : ∀ e, ent E G q ≠ some e := fun e z => by rw [h.1 q e z] at hq; cases hq
  rcases h.2.2.2.2.2.2.2.2 q with k | k | k | k | k | k | k | k
  · exact k
  · exfalso
    by_cases k15 : gK G q = 15
    · exact no _ (ent_model k15)
    · exact no _ (ent_obj rfl ⟨k.1, by omega⟩)
  · obtain ⟨m, d, e1, -⟩ := (h.2.1 q).1 k
    rw [e1] at hq
    cases hq
  · obtain ⟨d, h1, h2, e1, -⟩ := (h.2.1 q).2.1 k
    rw [e1] at hq
    cases hq
  · obtain ⟨d, n, g, e1, -⟩ := (h.2.1 q).2.2 k
    rw [e1] at hq
    cases hq
  · exfalso
    refine no (.inl (E.2.1 0, 10, .inl (fun j => i32 (gA G q j)))) ?_
    unfold ent
    rw [if_neg (by omega), if_neg (by omega), if_pos k]
  · exfalso
    refine no (.inl (E.2.1 4, 1, .inr (.inl (fun j => Int64.ofInt (gA G q j))))) ?_
    unfold ent
    rw [if_neg (by omega), if_neg (by omega), if_neg (by omega), if_pos k]
  · exfalso
    exact no _ (ent_row (k := gK G q - 100) (by omega) (by omega))
theorem pic_ne {E : EV} {G : GT} {f : FT} {ow : Nat → Nat} (h : pic E G f ow) {q x : Nat} (hq : f q = none) (hx : gK G x ≠ 0) : x ≠ q := fun z => hx (by rw [z]; exact pic_fresh h hq)
theorem ob_w : ∀ k : Nat, 3 ≤ k → k ≤ 14 → ∃ (NN : Nat) (Cn : String) (Tn : u_T), CL[k]? = some (Cn, Tn, NN) ∧ Cond.castable Cn "java/lang/Object" ∈ NW := by
  intro k h1 h2
  have h3 : k = 3 ∨ k = 4 ∨ k = 5 ∨ k = 6 ∨ k = 7 ∨ k = 8 ∨ k = 9 ∨ k = 10 ∨ k = 11 ∨ k = 12 ∨ k = 13 ∨ k = 14 := by omega
  rcases h3 with rfl | rfl | rfl | rfl | rfl | rfl | rfl | rfl | rfl | rfl | rfl | rfl
  · exact ⟨_, _, _, rfl, nw_i 1953 (by decide +kernel) rfl⟩
  · exact ⟨_, _, _, rfl, nw_i 1961 (by decide +kernel) rfl⟩
  · exact ⟨_, _, _, rfl, nw_i 1962 (by decide +kernel) rfl⟩
  · exact ⟨_, _, _, rfl, nw_i 1956 (by decide +kernel) rfl⟩
  · exact ⟨_, _, _, rfl, nw_i 1959 (by decide +kernel) rfl⟩
  · exact ⟨_, _, _, rfl, nw_i 1952 (by decide +kernel) rfl⟩
  · exact ⟨_, _, _, rfl, nw_i 1946 (by decide +kernel) rfl⟩
  · exact ⟨_, _, _, rfl, nw_i 1957 (by decide +kernel) rfl⟩
  · exact ⟨_, _, _, rfl, nw_i 1947 (by decide +kernel) rfl⟩
  · exact ⟨_, _, _, rfl, nw_i 1960 (by decide +kernel) rfl⟩
  · exact ⟨_, _, _, rfl, nw_i 1958 (by decide +kernel) rfl⟩
  · exact ⟨_, _, _, rfl, nw_i 1944 (by decide +kernel) rfl⟩
theorem OB_of {E : EV} {G : GT} {f : FT} {ow : Nat → Nat} (h : pic E G f ow) {v : Nat} (hv : 3 ≤ gK G v ∧ gK G v ≤ 14) : OB f v := by
  obtain ⟨NN, Cn, Tn, h1, h2⟩ := ob_w (gK G v) hv.1 hv.2
  exact ⟨gK G v, NN, Cn, Tn, _, h.1 v _ (ent_obj rfl hv), h1, h2⟩
theorem pic_list {E : EV} {G : GT} {f : FT} {ow : Nat → Nat} (h : pic E G f ow) {a : Nat} (hk : gK G a = 20) : ∃ (m : Int) (d : Nat), f a = some (lL m d ((gL G a).length : Int)) ∧ (gL G a).length ≤ 1000 ∧
    ((gL G a = [] ∧ d = E.2.2.2) ∨ (gK G d = 0 ∧ ow d = a ∧ ∃ (n : Nat) (g : Nat → Option Nat), f d = some (aO E n g) ∧ (gL G a).length ≤ n ∧ 2 ≤ n ∧ n ≤ 2000 ∧ ∀ (j x : Nat), (gL G a)[j]? = some x → g j = some x)) := by
  obtain ⟨m, d, e1, e2, e3⟩ := (h.2.1 a).1 hk
  refine ⟨m.toInt, d, ?_, e2, e3⟩
  unfold lL
  rw [i32_self]
  exact e1
/-- a list holds other things now -/
theorem pic_setL {E : EV} {G : GT} {f f' : FT} {ow : Nat → Nat} (h : pic E G f ow) {a d cap : Nat} {m : Int} {g : Nat → Option Nat} {xs : List Nat} (hk : gK G a = 20) (hd : (gK G d = 0 ∧ ow d = a) ∨ f d = none) (hf' : ∀ x, f' x = if x = a then some (lL m d (xs.length : Int)) else if x = d then some (aO E cap g) else f x)
    (hc : xs.length ≤ 1000 ∧ xs.length ≤ cap ∧ 2 ≤ cap ∧ cap ≤ 2000) (hg : ∀ (j x : Nat), xs[j]? = some x → g j = some x) : pic E (sL G a xs) f' (va_up ow d a) := by
  have hd0 : gK G d = 0 := hd.elim (fun z => z.1) (fun z => pic_fresh h z)
  have hda : d ≠ a := fun z => by rw [z, hk] at hd0; cases hd0
  refine ⟨fun x e he => ?_, fun x => ?_, h.2.2⟩
  · have he2 : ent E G x = some e := he
    have hkx := ent_kind he2
    rw [hf', if_neg (fun z => hkx.2.1 (by rw [z]; exact hk)), if_neg (fun z => hkx.1 (by rw [z]; exact hd0))]
    exact h.1 x e he2
  · by_cases hx : x = a
    · subst hx
      have hL : gL (sL G x xs) x = xs := if_pos rfl
      refine ⟨fun _ => ?_, fun z => ?_, fun z => ?_⟩
      · rw [hL]
        refine ⟨i32 m, d, (hf' x).trans (if_pos rfl), hc.1, Or.inr ⟨hd0, if_pos rfl, cap, g, (hf' d).trans (by rw [if_neg hda, if_pos rfl]), hc.2.1, hc.2.2.1, hc.2.2.2, hg⟩⟩
      · have : gK G x = 22 := z
        omega
      · have : gK G x = 24 := z
        omega
    · by_cases hxd : x = d
      · subst hxd
        refine ⟨fun z => ?_, fun z => ?_, fun z => ?_⟩
        · have : gK G x = 20 := z
          omega
        · have : gK G x = 22 := z
          omega
        · have : gK G x = 24 := z
          omega
      · refine cmp_kept (G := G) (h.2.1 x) rfl (if_neg hx) ((hf' x).trans (by rw [if_neg hx, if_neg hxd])) (fun y y1 y2 y3 => ?_)
        have hya : y ≠ a := fun z => by rw [z, hk] at y1; cases y1
        have hyd : y ≠ d := fun z => by
          rcases hd with hd | hd
          · exact hx (by rw [← y2, z]; exact hd.2)
          · rw [z, hd] at y3
            cases y3
        exact ⟨y1, (if_neg hyd).trans y2, (hf' y).trans (by rw [if_neg hya, if_neg hyd])⟩
/-- a builder -/
theorem pic_sb {E : EV} {G : GT} {f : FT} {ow : Nat → Nat} (h : pic E G f ow) {a : Nat} (hk : gK G a = 24) : ∃ (d n : Nat) (g : Nat → Int32), f a = some (lB d ((gL G a).length : Int)) ∧ gK G d = 0 ∧ ow d = a ∧ (gL G a).length ≤ 1000 ∧ (∀ x ∈ gL G a, x < 128) ∧ (gL G a).length ≤ n ∧ n ≤ 5000 ∧ sb_Fit g ∧ f d = some (aB E n g) ∧ ∀ (j x : Nat), (gL G a)[j]? = some x → g j = sb_b x := by
  obtain ⟨d, n, g, e⟩ := (h.2.1 a).2.2 hk
  exact ⟨d, n, g, e⟩
theorem pic_setB {E : EV} {G : GT} {f f' : FT} {ow : Nat → Nat} (h : pic E G f ow) {a d cap : Nat} {g : Nat → Int32} {xs : List Nat} (hk : gK G a = 24) (hd : (gK G d = 0 ∧ ow d = a) ∨ f d = none) (hf' : ∀ x, f' x = if x = a then some (lB d (xs.length : Int)) else if x = d then some (aB E cap g) else f x)
    (hc : xs.length ≤ 1000 ∧ xs.length ≤ cap ∧ cap ≤ 5000) (hfit : sb_Fit g) (hx : ∀ x ∈ xs, x < 128) (hg : ∀ (j x : Nat), xs[j]? = some x → g j = sb_b x) : pic E (sL G a xs) f' (va_up ow d a) := by
  have hd0 : gK G d = 0 := hd.elim (fun z => z.1) (fun z => pic_fresh h z)
  have hda : d ≠ a := fun z => by rw [z, hk] at hd0; cases hd0
  refine ⟨fun x e he => ?_, fun x => ?_, h.2.2⟩
  · have he2 : ent E G x = some e := he
    have hkx := ent_kind he2
    rw [hf', if_neg (fun z => hkx.2.2.2 (by rw [z]; exact hk)), if_neg (fun z => hkx.1 (by rw [z]; exact hd0))]
    exact h.1 x e he2
  · by_cases hx1 : x = a
    · subst hx1
      have hL : gL (sL G x xs) x = xs := if_pos rfl
      refine ⟨fun z => ?_, fun z => ?_, fun _ => ?_⟩
      · have : gK G x = 20 := z
        omega
      · have : gK G x = 22 := z
        omega
      · rw [hL]
        exact ⟨d, cap, g, (hf' x).trans (if_pos rfl), hd0, if_pos rfl, hc.1, hx, hc.2.1, hc.2.2, hfit, (hf' d).trans (by rw [if_neg hda, if_pos rfl]), hg⟩
    · by_cases hxd : x = d
      · subst hxd
        refine ⟨fun z => ?_, fun z => ?_, fun z => ?_⟩
        · have : gK G x = 20 := z
          omega
        · have : gK G x = 22 := z
          omega
        · have : gK G x = 24 := z
          omega
      · refine cmp_kept (G := G) (h.2.1 x) rfl (if_neg hx1) ((hf' x).trans (by rw [if_neg hx1, if_neg hxd])) (fun y y1 y2 y3 => ?_)
        have hya : y ≠ a := fun z => by rw [z, hk] at y1; cases y1
        have hyd : y ≠ d := fun z => by
          rcases hd with hd | hd
          · exact hx1 (by rw [← y2, z]; exact hd.2)
          · rw [z, hd] at y3
            cases y3
        exact ⟨y1, (if_neg hyd).trans y2, (hf' y).trans (by rw [if_neg hya, if_neg hyd])⟩
/-- something new in the picture, at an address where nothing was: its kind, and a picture that is otherwise the same -/
theorem ent_new {E : EV} {G : GT} {q k x : Nat} {xs : List Nat} (hx : x ≠ q) : ent E (sL (sK G q k) q xs) x = ent E G x :=
  ent_eq (show va_up G.1 q k x = G.1 x from if_neg hx) (fun _ => rfl) (fun _ => rfl) (fun _ => rfl) (fun _ _ _ => rfl)
theorem wf_sK {G : GT} {q k : Nat} (h : wfG G) (h0 : gK G q = 0) (hk : k = 20 ∨ k = 22 ∨ k = 24 ∨ k = 25 ∨ k = 26 ∨ (3 ≤ k ∧ k ≤ 14)) : wfG (sK G q k) := by
  obtain ⟨w1, w2, w3, w4, w5, w6, w7⟩ := h
  have kq : gK (sK G q k) q = k := if_pos rfl
  have kn : ∀ x, x ≠ q → gK (sK G q k) x = gK G x := fun x hx => if_neg hx
  refine ⟨w1, w2, w3, w4, w5, fun x y e hx => ?_, fun x => ?_⟩
  · by_cases hxq : x = q
    · subst hxq
      rw [kq] at hx
      omega
    · by_cases hyq : y = q
      · subst hyq
        rw [e, kq] at hx
        omega
      · rw [kn x hxq, kn y hyq] at e
        rw [kn x hxq] at hx
        exact w6 x y e hx
  · by_cases hxq : x = q
    · subst hxq
      rw [kq]
      omega
    · rw [kn x hxq]
      exact w7 x
theorem cmp_none {E : EV} {G : GT} {f : FT} {ow : Nat → Nat} {x : Nat} (h : gK G x ≠ 20 ∧ gK G x ≠ 22 ∧ gK G x ≠ 24) : cmp E G f ow x := ⟨fun z => absurd z h.1, fun z => absurd z h.2.1, fun z => absurd z h.2.2⟩
theorem pic_newL {E : EV} {G : GT} {f : FT} {ow : Nat → Nat} (h : pic E G f ow) {q : Nat} (hq : f q = none) : pic E (sL (sK G q 20) q []) (va_up f q (some (lL 0 E.2.2.2 0))) ow := by
  have h0 := pic_fresh h hq
  refine ⟨fun x e he => ?_, fun x => ?_, wf_sK h.2.2 h0 (Or.inl rfl)⟩
  · by_cases hx : x = q
    · subst hx
      exact absurd (show gK (sL (sK G x 20) x []) x = 20 from if_pos rfl) (ent_kind he).2.1
    · rw [up_n hx]
      rw [ent_new hx] at he
      exact h.1 x e he
  · by_cases hx : x = q
    · subst hx
      have hL : gL (sL (sK G x 20) x []) x = [] := if_pos rfl
      have hk : gK (sL (sK G x 20) x []) x = 20 := if_pos rfl
      refine ⟨fun _ => ?_, fun z => by omega, fun z => by omega⟩
      rw [hL]
      exact ⟨i32 0, E.2.2.2, up_s, Nat.zero_le _, Or.inl ⟨rfl, rfl⟩⟩
    · refine cmp_kept (G := G) (h.2.1 x) (if_neg hx) (if_neg hx) (up_n hx) (fun y y1 y2 y3 => ?_)
      have hyq : y ≠ q := fun z => by rw [z, hq] at y3; cases y3
      exact ⟨(show va_up G.1 q 20 y = G.1 y from if_neg hyq).trans y1, y2, up_n hyq⟩
theorem pic_newB {E : EV} {G : GT} {f f' : FT} {ow : Nat → Nat} (h : pic E G f ow) {q d : Nat} (hq : f q = none) (hd : f d = none) (hdq : d ≠ q) (hf' : ∀ x, f' x = if x = q then some (lB d 0) else if x = d then some (aB E 16 (fun _ => 0)) else f x) : pic E (sL (sK G q 24) q []) f' (va_up ow d q) := by
  have h0 := pic_fresh h hq
  have hd0 := pic_fresh h hd
  have kn : ∀ x, x ≠ q → gK (sL (sK G q 24) q []) x = gK G x := fun x hx => if_neg hx
  refine ⟨fun x e he => ?_, fun x => ?_, wf_sK h.2.2 h0 (by omega)⟩
  · by_cases hx : x = q
    · subst hx
      exact absurd (show gK (sL (sK G x 24) x []) x = 24 from if_pos rfl) (ent_kind he).2.2.2
    · rw [ent_new hx] at he
      rw [hf', if_neg hx, if_neg (fun z => (ent_kind he).1 (by rw [z]; exact hd0))]
      exact h.1 x e he
  · by_cases hx : x = q
    · subst hx
      have hL : gL (sL (sK G x 24) x []) x = [] := if_pos rfl
      have hk : gK (sL (sK G x 24) x []) x = 24 := if_pos rfl
      refine ⟨fun z => by omega, fun z => by omega, fun _ => ?_⟩
      rw [hL]
      exact ⟨d, 16, fun _ => 0, (hf' x).trans (if_pos rfl), (kn d hdq).trans hd0, if_pos rfl, Nat.zero_le _, fun x hx => absurd hx List.not_mem_nil, Nat.zero_le _, by omega, sb_fit0, (hf' d).trans (by rw [if_neg hdq, if_pos rfl]), fun j x hx => by simp at hx⟩
    · by_cases hxd : x = d
      · subst hxd
        have := (kn x hx).trans hd0
        exact cmp_none ⟨by omega, by omega, by omega⟩
      · refine cmp_kept (G := G) (h.2.1 x) (kn x hx) (if_neg hx) ((hf' x).trans (by rw [if_neg hx, if_neg hxd])) (fun y y1 y2 y3 => ?_)
        have hyq : y ≠ q := fun z => by rw [z, hq] at y3; cases y3
        have hyd : y ≠ d := fun z => by rw [z, hd] at y3; cases y3
        exact ⟨(kn y hyq).trans y1, (if_neg hyd).trans y2, (hf' y).trans (by rw [if_neg hyq, if_neg hyd])⟩
/-- a text -/
theorem pic_newS {E : EV} {G : GT} {f f' : FT} {ow : Nat → Nat} (h : pic E G f ow) {q d : Nat} {xs : List Nat} {g : Nat → Int32} (hq : f q = none) (hd : f d = none) (hdq : d ≠ q) (hl : xs.length ≤ 1000) (hx8 : ∀ x ∈ xs, x < 128) (hg : ∀ j, g j = sb_b (xs.getD j 0)) (hf' : ∀ x, f' x = if x = q then some (lS d 0 0) else if x = d then some (aB E xs.length g) else f x) : pic E (sL (sK G q 22) q xs) f' (va_up ow d q) := by
  have h0 := pic_fresh h hq
  have hd0 := pic_fresh h hd
  have hge : g = fun j => sb_b (xs.getD j 0) := funext hg
  subst hge
  have kn : ∀ x, x ≠ q → gK (sL (sK G q 22) q xs) x = gK G x := fun x hx => if_neg hx
  refine ⟨fun x e he => ?_, fun x => ?_, wf_sK h.2.2 h0 (by omega)⟩
  · by_cases hx : x = q
    · subst hx
      exact absurd (show gK (sL (sK G x 22) x xs) x = 22 from if_pos rfl) (ent_kind he).2.2.1
    · rw [ent_new hx] at he
      rw [hf', if_neg hx, if_neg (fun z => (ent_kind he).1 (by rw [z]; exact hd0))]
      exact h.1 x e he
  · by_cases hx : x = q
    · subst hx
      have hL : gL (sL (sK G x 22) x xs) x = xs := if_pos rfl
      have hk : gK (sL (sK G x 22) x xs) x = 22 := if_pos rfl
      refine ⟨fun z => by omega, fun _ => ?_, fun z => by omega⟩
      rw [hL]
      exact ⟨d, 0, 0, (hf' x).trans (if_pos rfl), (kn d hdq).trans hd0, if_pos rfl, hl, hx8, (hf' d).trans (by rw [if_neg hdq, if_pos rfl])⟩
    · by_cases hxd : x = d
      · subst hxd
        have := (kn x hx).trans hd0
        exact cmp_none ⟨by omega, by omega, by omega⟩
      · refine cmp_kept (G := G) (h.2.1 x) (kn x hx) (if_neg hx) ((hf' x).trans (by rw [if_neg hx, if_neg hxd])) (fun y y1 y2 y3 => ?_)
        have hyq : y ≠ q := fun z => by rw [z, hq] at y3; cases y3
        have hyd : y ≠ d := fun z => by rw [z, hd] at y3; cases y3
        exact ⟨(kn y hyq).trans y1, (if_neg hyd).trans y2, (hf' y).trans (by rw [if_neg hyq, if_neg hyd])⟩
/-- a new object: its kind, its fields at 0 or null -/
def nO (G : GT) (q k : Nat) : GT := (va_up G.1 q k, (fun i a => if a = q ∧ i / 100 = k then 0 else G.2.1 i a), (fun i a => if a = q ∧ i / 100 = k then none else G.2.2.1 i a), G.2.2.2)
theorem nf_small : ∀ k : Nat, 3 ≤ k → k ≤ 14 → NF k ≤ 13 := by
  intro k h1 h2
  have h3 : k = 3 ∨ k = 4 ∨ k = 5 ∨ k = 6 ∨ k = 7 ∨ k = 8 ∨ k = 9 ∨ k = 10 ∨ k = 11 ∨ k = 12 ∨ k = 13 ∨ k = 14 := by omega
  rcases h3 with rfl | rfl | rfl | rfl | rfl | rfl | rfl | rfl | rfl | rfl | rfl | rfl <;> decide
theorem wf_nO {G : GT} {q k : Nat} (h : wfG G) (h0 : gK G q = 0) (hk : 3 ≤ k ∧ k ≤ 14) : wfG (nO G q k) := by
  obtain ⟨w1, w2, w3, w4, w5, w6, w7⟩ := wf_sK h h0 (k := k) (by omega)
  refine ⟨fun i a => ?_, w2, w3, fun i a hz => ?_, w5, w6, w7⟩
  · show InR (if a = q ∧ i / 100 = k then 0 else G.2.1 i a)
    split
    · exact ⟨by omega, by omega⟩
    · exact w1 i a
  · show (if a = q ∧ i / 100 = k then 0 else G.2.1 i a) = 0 ∨ (if a = q ∧ i / 100 = k then 0 else G.2.1 i a) = 1
    split
    · exact Or.inl rfl
    · exact w4 i a hz
theorem pic_newO {E : EV} {G : GT} {f : FT} {ow : Nat → Nat} (h : pic E G f ow) {q k : Nat} (hq : f q = none) (hk : 3 ≤ k ∧ k ≤ 14) : pic E (nO G q k) (va_up f q (some (.inr (k, (List.range (NF k)).map (fun j => if isR (100 * k + j) then .null else .int 0))))) ow := by
  have h0 := pic_fresh h hq
  have kn : ∀ x, x ≠ q → gK (nO G q k) x = gK G x := fun x hx => if_neg hx
  have kq : gK (nO G q k) q = k := if_pos rfl
  refine ⟨fun x e he => ?_, fun x => ?_, wf_nO h.2.2 h0 hk⟩
  · by_cases hx : x = q
    · subst hx
      rw [ent_obj kq hk] at he
      rw [up_s, ← he]
      congr 2
      unfold fl
      refine congrArg (fun z => (k, z)) (List.map_congr_left (fun j hj => ?_))
      have hj2 := List.mem_range.mp hj
      have hnf := nf_small k hk.1 hk.2
      have e100 : (100 * k + j) / 100 = k := by omega
      unfold fv
      by_cases hr : isR (100 * k + j) = true
      · rw [if_pos hr, if_pos hr]
        show Value.null = va_rf (if x = x ∧ (100 * k + j) / 100 = k then none else G.2.2.1 (100 * k + j) x)
        rw [if_pos ⟨rfl, e100⟩]
        rfl
      · rw [if_neg hr, if_neg hr]
        show Value.int 0 = .int (i32 (if x = x ∧ (100 * k + j) / 100 = k then 0 else G.2.1 (100 * k + j) x))
        rw [if_pos ⟨rfl, e100⟩]
        rfl
    · rw [up_n hx]
      have he2 : ent E (nO G q k) x = ent E G x := ent_eq (kn x hx) (fun i => if_neg (fun z => hx z.1)) (fun i => if_neg (fun z => hx z.1)) (fun _ => rfl) (fun _ _ _ => rfl)
      rw [he2] at he
      exact h.1 x e he
  · by_cases hx : x = q
    · subst hx
      exact cmp_none ⟨by rw [kq]; omega, by rw [kq]; omega, by rw [kq]; omega⟩
    · refine cmp_kept (G := G) (h.2.1 x) (kn x hx) rfl (up_n hx) (fun y y1 y2 y3 => ?_)
      have hyq : y ≠ q := fun z => by rw [z, hq] at y3; cases y3
      exact ⟨(kn y hyq).trans y1, y2, up_n hyq⟩
/-- a new row of ten ints -/
def nA (G : GT) (q : Nat) : GT := (va_up G.1 q 25, G.2.1, G.2.2.1, G.2.2.2.1, (fun a j => if a = q then 0 else G.2.2.2.2.1 a j), G.2.2.2.2.2)
theorem pic_newA {E : EV} {G : GT} {f : FT} {ow : Nat → Nat} (h : pic E G f ow) {q : Nat} (hq : f q = none) : pic E (nA G q) (va_up f q (some (aI E 10 (fun _ => 0)))) ow := by
  have h0 := pic_fresh h hq
  have kn : ∀ x, x ≠ q → gK (nA G q) x = gK G x := fun x hx => if_neg hx
  have kq : gK (nA G q) q = 25 := if_pos rfl
  have wf : wfG (nA G q) := by
    obtain ⟨w1, w2, w3, w4, w5, w6, w7⟩ := wf_sK h.2.2 h0 (k := 25) (by omega)
    refine ⟨w1, fun a j => ?_, w3, w4, w5, w6, w7⟩
    show InR (if a = q then 0 else G.2.2.2.2.1 a j)
    split
    · exact ⟨by omega, by omega⟩
    · exact w2 a j
  refine ⟨fun x e he => ?_, fun x => ?_, wf⟩
  · by_cases hx : x = q
    · subst hx
      unfold ent at he
      rw [kq, if_neg (by omega), if_neg (by omega), if_pos rfl] at he
      rw [up_s, ← he]
      have : (fun j => i32 (gA (nA G x) x j)) = fun _ => 0 := funext fun j => by
        show i32 (if x = x then 0 else G.2.2.2.2.1 x j) = 0
        rw [if_pos rfl]
        rfl
      rw [this]
    · rw [up_n hx]
      have he2 : ent E (nA G q) x = ent E G x := ent_eq (kn x hx) (fun _ => rfl) (fun _ => rfl) (fun j => if_neg hx) (fun _ _ _ => rfl)
      rw [he2] at he
      exact h.1 x e he
  · by_cases hx : x = q
    · subst hx
      exact cmp_none ⟨by rw [kq]; omega, by rw [kq]; omega, by rw [kq]; omega⟩
    · refine cmp_kept (G := G) (h.2.1 x) (kn x hx) rfl (up_n hx) (fun y y1 y2 y3 => ?_)
      have hyq : y ≠ q := fun z => by rw [z, hq] at y3; cases y3
      exact ⟨(kn y hyq).trans y1, y2, up_n hyq⟩
