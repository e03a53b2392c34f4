/-! lists, texts, new things over the picture -/
theorem emp_no {E : EV} {f : FT} {U : State} {H : Heap} (h : hf E f H) (hS : ST E U H) : f E.2.2.2 = none := by
  cases hq : f E.2.2.2 with
  | none => rfl
  | some e =>
    obtain ⟨cell, -, -, -, -, -, -, hA⟩ := hS.1.2.1
    exact absurd (h _ e hq).2 hA
/-- a method of the JDK over the picture, from its row over the cells -/
theorem mt_raw {E : EV} {l : Launch} {y : MethodName} {cc : ByteArray} {nL : Nat} {ret : Option FieldType} {fr lo mc ms : Nat} {av : List Value} {G : GT} {post : Option Value → GT → Prop}
    (h : ∀ (f : FT) (ow : Nat → Nat), pic E G f ow → f E.2.2.2 = none → MR E l y cc nL ret fr lo mc ms av f (fun v f' => f' E.2.2.2 = none → ∃ (G' : GT) (ow' : Nat → Nat), pic E G' f' ow' ∧ post v G')) : MT E l y cc nL ret fr lo mc ms av G post := by
  intro p e ha hf9 hc s m args below hfr hap hP hK
  obtain ⟨hav, hK9, hST, hsz, ⟨f, ow, g1, g2, g3, g4⟩, hNW⟩ := hP
  obtain ⟨n, o, r1, r2, r3, ⟨⟨v, f', ho, ⟨w1, w2, w3, w4, w5⟩, hq⟩, hF⟩, r5⟩ := h f ow ⟨g2, g3, g4⟩ (emp_no g1 hST) p e ha hf9 hc s m args below hfr hap ⟨hav, hK9, hST, hsz, g1, hNW⟩ hK
  obtain ⟨G', ow', hp', hq'⟩ := hq (emp_no w4 w2)
  exact ⟨n, o, r1, r2, r3, ⟨⟨v, G', ho, ⟨w1, w2, w3, pic_hp w4 hp', w5⟩, hq'⟩, hF⟩, r5⟩
section XLS
variable {E : EV} {l : Launch} {G : GT}
theorem c_size {a : Nat} (hk : gK G a = 20) : MT E l yJx4a65c_size_8abf5 cJx4a65c_size_8abf5 1 (some .int) 0 0 0 0 [.ref a] G (pD (some (.int (i32 ((gL G a).length : Int)))) G) :=
  mt_raw (fun f ow h _ => by
    obtain ⟨m, d, e1, e2, e3⟩ := pic_list h hk
    exact mr_mono (j_Jx4a65c_size_8abf5 e1) (fun v f' q _ => by obtain ⟨rfl, rfl⟩ := q; exact ⟨G, ow, h, rfl, rfl⟩))
theorem c_get {a x : Nat} {i : Int} (hk : gK G a = 20) (hi : 0 ≤ i) (hx : (gL G a)[i.toNat]? = some x) : MT E l yJx4a65c_get_915e3 cJx4a65c_get_915e3 2 (some (.object "java/lang/Object")) 2 43 0 0 [.ref a, .int (i32 i)] G (pD (some (.ref x)) G) :=
  mt_raw (fun f ow h _ => by
    obtain ⟨m, d, e1, e2, e3⟩ := pic_list h hk
    have hl := (List.getElem?_eq_some_iff.mp hx).1
    rcases e3 with ⟨e3, -⟩ | ⟨-, -, n, g, e4, e5, e6, e7, e8⟩
    · rw [e3] at hl; exact absurd hl (Nat.not_lt_zero _)
    · exact mr_mono (j_Jx4a65c_get_915e3 e1 e4 ⟨hi, by omega, by omega, e7⟩) (fun v f' q _ => by
        obtain ⟨rfl, rfl⟩ := q
        exact ⟨G, ow, h, by rw [e8 _ _ hx]; rfl, rfl⟩))
theorem ob_el {f : FT} {ow : Nat → Nat} {a : Nat} {g : Nat → Option Nat} (h : pic E G f ow) (hk : gK G a = 20) (hel : ∀ x ∈ gL G a, 3 ≤ gK G x ∧ gK G x ≤ 14) (e8 : ∀ (j x : Nat), (gL G a)[j]? = some x → g j = some x) : ∀ i y : Nat, i < (gL G a).length → g i = some y → OB f y ∧ y ≠ a := by
  intro i y hi hy
  have e := e8 i _ (List.getElem?_eq_getElem hi)
  rw [hy] at e
  cases e
  have h9 := hel _ (List.getElem_mem hi)
  exact ⟨OB_of h h9, fun z => by rw [z, hk] at h9; omega⟩
theorem c_add {a v ms : Nat} (hk : gK G a = 20) (hv : 3 ≤ gK G v ∧ gK G v ≤ 14) (hel : ∀ x ∈ gL G a, 3 ≤ gK G x ∧ gK G x ≤ 14) (hn : (gL G a).length ≤ 600 ∧ 10 ≤ ms ∧ (gL G a).length + (gL G a).length / 2 ≤ ms) : MT E l yJx4a65c_add_9ea2d cJx4a65c_add_9ea2d 2 (some .boolean) 6 170 1 ms [.ref a, .ref v] G (pD (some (.int (i32 1))) (sL G a (gL G a ++ [v]))) :=
  mt_raw (fun f ow h h0 => by
    obtain ⟨m, d, e1, e2, e3⟩ := pic_list h hk
    have hva : v ≠ a := fun z => by rw [z, hk] at hv; omega
    have key : ∀ (cap : Nat) (g : Nat → Option Nat), ((gL G a).length = 0 ∧ d = E.2.2.2) ∨ (f d = some (aO E cap g) ∧ (gL G a).length ≤ cap ∧ 2 ≤ cap ∧ cap ≤ 2000 ∧ ∀ i y : Nat, i < (gL G a).length → g i = some y → OB f y ∧ y ≠ a) → (∀ (j x : Nat), (gL G a)[j]? = some x → g j = some x) → ((gK G d = 0 ∧ ow d = a) ∨ d = E.2.2.2) →
        MR E l yJx4a65c_add_9ea2d cJx4a65c_add_9ea2d 2 (some .boolean) 6 170 1 ms [.ref a, .ref v] f (fun v' f' => f' E.2.2.2 = none → ∃ (G' : GT) (ow' : Nat → Nat), pic E G' f' ow' ∧ pD (some (.int (i32 1))) (sL G a (gL G a ++ [v])) v' G') := by
      intro cap g hc hg hd0
      refine mr_mono (j_Jx4a65c_add_9ea2d e1 (OB_of h hv) hva hc ⟨by omega, hn.2⟩) (fun v' f' q hz => ?_)
      obtain ⟨rfl, d', cap', g', q1, q2, q3, q4, q5, q6, q7⟩ := q
      have hlen : (gL G a ++ [v]).length = (gL G a).length + 1 := by rw [List.length_append]; rfl
      refine ⟨_, _, pic_setL h hk (d := d') (cap := cap') (g := g') (m := m + 1) (xs := gL G a ++ [v]) ?_ ?_ ⟨by omega, by omega, q4, q5⟩ ?_, rfl, rfl⟩
      · rcases q1 with q1 | q1
        · subst q1
          rcases hd0 with hd0 | hd0
          · exact Or.inl hd0
          · right; rw [hd0]; exact h0
        · exact Or.inr q1.1
      · intro x
        have hc9 : (((gL G a).length + 1 : Nat) : Int) = ((gL G a).length : Int) + 1 := by omega
        rw [hlen, hc9]
        exact q2 x
      · intro j x hx
        by_cases hj : j < (gL G a).length
        · rw [List.getElem?_append_left hj] at hx
          rw [q6 j hj]
          exact hg j x hx
        · have hj2 := (List.getElem?_eq_some_iff.mp hx).1
          have : j = (gL G a).length := by omega
          subst this
          rw [List.getElem?_append_right (Nat.le_refl _), Nat.sub_self] at hx
          cases hx
          exact q7
    rcases e3 with ⟨e3, e4⟩ | ⟨w1, w2, n, g, e4, e5, e6, e7, e8⟩
    · exact key 0 (fun _ => none) (Or.inl ⟨by rw [e3]; rfl, e4⟩) (fun j x hx => by rw [e3] at hx; simp at hx) (Or.inr e4)
    · exact key n g (Or.inr ⟨e4, e5, e6, e7, ob_el h hk hel e8⟩) e8 (Or.inl ⟨w1, w2⟩))
theorem c_remove {a x i : Nat} (hk : gK G a = 20) (hx : (gL G a)[i]? = some x) (hel : ∀ x ∈ gL G a, 3 ≤ gK G x ∧ gK G x ≤ 14) : MT E l yJx4a65c_remove_915e3 cJx4a65c_remove_915e3 4 (some (.object "java/lang/Object")) 2 83 0 0 [.ref a, .int (i32 (i : Int))] G (pD (some (.ref x)) (sL G a ((gL G a).eraseIdx i))) :=
  mt_raw (fun f ow h _ => by
    obtain ⟨m, d, e1, e2, e3⟩ := pic_list h hk
    have hl := (List.getElem?_eq_some_iff.mp hx).1
    rcases e3 with ⟨e3, -⟩ | ⟨w1, w2, n, g, e4, e5, e6, e7, e8⟩
    · rw [e3] at hl; exact absurd hl (Nat.not_lt_zero _)
    · refine mr_mono (j_Jx4a65c_remove_915e3 e1 e4 ⟨hl, e5, e7⟩ (ob_el h hk hel e8)) (fun v' f' q _ => ?_)
      obtain ⟨rfl, g', q2, q3⟩ := q
      have hlen : ((gL G a).eraseIdx i).length = (gL G a).length - 1 := by rw [List.length_eraseIdx, if_pos hl]
      refine ⟨_, _, pic_setL h hk (d := d) (cap := n) (g := g') (m := m + 1) (xs := (gL G a).eraseIdx i) (Or.inl ⟨w1, w2⟩) ?_ ⟨by omega, by omega, e6, e7⟩ ?_, by rw [e8 _ _ hx]; rfl, rfl⟩
      · intro y
        rw [q2 y, hlen]
        have : ((((gL G a).length - 1 : Nat)) : Int) = ((gL G a).length : Int) - 1 := by omega
        rw [this]
      · intro j y hy
        have hj := (List.getElem?_eq_some_iff.mp hy).1
        rw [List.getElem?_eraseIdx] at hy
        rw [q3 j (by omega)]
        split at hy
        · rw [if_pos (by assumption)]; exact e8 _ _ hy
        · rw [if_neg (by assumption)]; exact e8 _ _ hy)
theorem c_set {a v x i : Nat} (hk : gK G a = 20) (hx : (gL G a)[i]? = some x) (hv : 3 ≤ gK G v ∧ gK G v ≤ 14) : MT E l yJx4a65c_set_bcc79 cJx4a65c_set_bcc79 4 (some (.object "java/lang/Object")) 2 43 0 0 [.ref a, .int (i32 (i : Int)), .ref v] G (pD (some (.ref x)) (sL G a ((gL G a).set i v))) :=
  mt_raw (fun f ow h _ => by
    obtain ⟨m, d, e1, e2, e3⟩ := pic_list h hk
    have hl := (List.getElem?_eq_some_iff.mp hx).1
    rcases e3 with ⟨e3, -⟩ | ⟨w1, w2, n, g, e4, e5, e6, e7, e8⟩
    · rw [e3] at hl; exact absurd hl (Nat.not_lt_zero _)
    · refine mr_mono (j_Jx4a65c_set_bcc79 e1 e4 ⟨hl, e5, e7⟩ (OB_of h hv)) (fun v' f' q _ => ?_)
      obtain ⟨rfl, rfl⟩ := q
      have hda : d ≠ a := fun z => by rw [z, hk] at w1; cases w1
      refine ⟨_, _, pic_setL h hk (d := d) (cap := n) (g := va_up g i (some v)) (m := m) (xs := (gL G a).set i v) (Or.inl ⟨w1, w2⟩) ?_ ⟨by rw [List.length_set]; exact e2, by rw [List.length_set]; exact e5, e6, e7⟩ ?_, by rw [e8 _ _ hx]; rfl, rfl⟩
      · intro y
        rw [List.length_set]
        by_cases hya : y = a
        · subst hya
          rw [if_pos rfl, up_n (fun z => hda z.symm)]
          exact e1
        · rw [if_neg hya]
          by_cases hyd : y = d
          · subst hyd; rw [up_s, if_pos rfl]
          · rw [up_n hyd, if_neg hyd]
      · intro j y hy
        by_cases hj : j = i
        · subst hj
          rw [List.getElem?_set_self hl] at hy
          cases hy
          exact if_pos rfl
        · rw [List.getElem?_set_ne (fun z => hj z.symm)] at hy
          rw [show va_up g i (some v) j = g j from if_neg hj]
          exact e8 _ _ hy)
/-- builders and texts -/
theorem c_apx {a ms fr lo nL : Nat} {y : MethodName} {cc : ByteArray} {av : List Value} {ys : List Nat} (hk : gK G a = 24) (hys : ∀ x ∈ ys, x < 128) (hn : (gL G a).length + 8 ≤ 1000 ∧ 2 * ((gL G a).length + 8) + 2 ≤ ms) (hyl : ys.length ≤ 8)
    (hj : ∀ (f : FT) (d N : Nat) (g : Nat → Int32), f a = some (lB d ((gL G a).length : Int)) → f d = some (aB E N g) → (gL G a).length ≤ N ∧ N ≤ 5000 ∧ (gL G a).length + 8 ≤ 1000 ∧ 2 * ((gL G a).length + 8) + 2 ≤ ms → sb_Fit g →
      MR E l y cc nL (some (.object "java/lang/StringBuilder")) fr lo 1 ms av f (fun v G' => v = some (.ref a) ∧ ∃ (d' N' : Nat) (g' : Nat → Int32), (d' = d ∨ (f d' = none ∧ d' ≠ a)) ∧ (∀ x, G' x = if x = a then some (lB d' (((gL G a).length + ys.length : Nat) : Int)) else if x = d' then some (aB E N' g') else f x) ∧ (gL G a).length + ys.length ≤ N' ∧ N' ≤ 5000 ∧ sb_Fit g' ∧ (∀ j, j < (gL G a).length → g' j = g j) ∧ ∀ j, j < ys.length → g' ((gL G a).length + j) = sb_b (ys.getD j 0))) :
    MT E l y cc nL (some (.object "java/lang/StringBuilder")) fr lo 1 ms av G (pD (some (.ref a)) (sL G a (gL G a ++ ys))) :=
  mt_raw (fun f ow h _ => by
    obtain ⟨d, N, g, e1, e2, e3, e4, e5, e6, e7, e8, e9, e10⟩ := pic_sb h hk
    refine mr_mono (hj f d N g e1 e9 ⟨e6, e7, hn⟩ e8) (fun v' f' q _ => ?_)
    obtain ⟨rfl, d', N', g', q1, q2, q3, q4, q5, q6, q7⟩ := q
    have hlen : (gL G a ++ ys).length = (gL G a).length + ys.length := List.length_append
    refine ⟨_, _, pic_setB h hk (d := d') (cap := N') (g := g') (xs := gL G a ++ ys) ?_ (fun x => by rw [q2 x, hlen]) ⟨by omega, by omega, q4⟩ q5 ?_ ?_, rfl, rfl⟩
    · rcases q1 with q1 | q1
      · subst q1; exact Or.inl ⟨e2, e3⟩
      · exact Or.inr q1.1
    · intro x hx
      rcases List.mem_append.mp hx with hx | hx
      · exact e5 x hx
      · exact hys x hx
    · intro j x hx
      by_cases hj : j < (gL G a).length
      · rw [List.getElem?_append_left hj] at hx
        rw [q6 j hj]
        exact e10 j x hx
      · have hj2 := (List.getElem?_eq_some_iff.mp hx).1
        rw [List.getElem?_append_right (by omega)] at hx
        have e := q7 (j - (gL G a).length) (by omega)
        rw [show (gL G a).length + (j - (gL G a).length) = j by omega] at e
        rw [e, List.getD_eq_getElem?_getD, hx]
        rfl)
theorem c_apS {a ms i : Nat} (hk : gK G a = 24) (hi : i < 2) (hn : (gL G a).length + 8 ≤ 1000 ∧ 2 * ((gL G a).length + 8) + 2 ≤ ms) : MT E l yJ4_append_15ec4 cJ4_append_15ec4 2 (some (.object "java/lang/StringBuilder")) 5 127 1 ms [.ref a, .ref (kS E i)] G (pD (some (.ref a)) (sL G a (gL G a ++ kT i))) :=
  c_apx hk kT_in hn (kT_len hi) (fun f d N g h1 h2 h3 h4 => j_J4_append_15ec4 h1 h2 hi h3 h4)
theorem dgs_in {x : Nat} (h : x ≤ 9999) : ∀ y ∈ dgs x, y < 128 := by
  unfold dgs
  intro y hy
  split at hy
  · simp only [List.mem_cons, List.not_mem_nil, or_false] at hy; omega
  · split at hy
    · simp only [List.mem_cons, List.not_mem_nil, or_false] at hy; omega
    · split at hy
      · simp only [List.mem_cons, List.not_mem_nil, or_false] at hy; omega
      · simp only [List.mem_cons, List.not_mem_nil, or_false] at hy; omega
theorem c_apI {a ms x : Nat} (hk : gK G a = 24) (hx : x ≤ 9999) (hn : (gL G a).length + 8 ≤ 1000 ∧ 2 * ((gL G a).length + 8) + 2 ≤ ms) : MT E l yJ4_append_bf812 cJ4_append_bf812 2 (some (.object "java/lang/StringBuilder")) 5 127 1 ms [.ref a, .int (i32 (x : Int))] G (pD (some (.ref a)) (sL G a (gL G a ++ dgs x))) :=
  c_apx hk (dgs_in hx) hn (by have := dgs_l x; omega) (fun f d N g h1 h2 h3 h4 => j_J4_append_bf812 h1 h2 hx h3 h4)
theorem c_apC {a ms x : Nat} (hk : gK G a = 24) (hx : x < 128) (hn : (gL G a).length + 8 ≤ 1000 ∧ 2 * ((gL G a).length + 8) + 2 ≤ ms) : MT E l yJ4_append_cf468 cJ4_append_cf468 2 (some (.object "java/lang/StringBuilder")) 5 125 1 ms [.ref a, .int (i32 (x : Int))] G (pD (some (.ref a)) (sL G a (gL G a ++ [x]))) :=
  c_apx hk (fun y hy => by cases List.mem_singleton.mp hy; exact hx) hn (Nat.le_add_left 1 7) (fun f d N g h1 h2 h3 h4 => j_J4_append_cf468 h1 h2 hx h3 h4)
theorem c_toS {a ms : Nat} (hk : gK G a = 24) (hn : (gL G a).length ≤ ms) : MT E l yJ4_toString_0e30d cJ4_toString_0e30d 1 (some (.object "java/lang/String")) 5 151 2 (ms + 4) [.ref a] G (fun v G' => ∃ q : Nat, gK G q = 0 ∧ v = some (.ref q) ∧ G' = sL (sK G q 22) q (gL G a)) :=
  mt_raw (fun f ow h _ => by
    obtain ⟨d, N, g, e1, e2, e3, e4, e5, e6, e7, e8, e9, e10⟩ := pic_sb h hk
    refine mr_mono (j_J4_toString_0e30d e1 e9 ⟨e6, e7, hn⟩ e8) (fun v' f' q _ => ?_)
    obtain ⟨x, d', q1, q2, q3, rfl, q5⟩ := q
    refine ⟨_, _, pic_newS h (q := x) (d := d') (xs := gL G a) (g := fun j => if j < (gL G a).length then g j else 0) q1 q2 q3 e4 e5 (fun j => ?_) q5, x, pic_fresh h q1, rfl, rfl⟩
    by_cases hj : j < (gL G a).length
    · rw [if_pos hj, e10 j _ (List.getElem?_eq_getElem hj), List.getD_eq_getElem?_getD, List.getElem?_eq_getElem hj]
      rfl
    · rw [if_neg hj, List.getD_eq_getElem?_getD, List.getElem?_eq_none (by omega)]
      rfl)
theorem pic_text {f : FT} {ow : Nat → Nat} (h : pic E G f ow) {a : Nat} (hk : gK G a = 22) : ∃ (d : Nat) (h1 h2 : Int32), f a = some (lS d h1 h2) ∧ (gL G a).length ≤ 1000 ∧ (∀ x ∈ gL G a, x < 128) ∧ f d = some (aB E (gL G a).length (fun j => sb_b ((gL G a).getD j 0))) := by
  obtain ⟨d, h1, h2, e1, -, -, e2, e3, e4⟩ := (h.2.1 a).2.1 hk
  exact ⟨d, h1, h2, e1, e2, e3, e4⟩
theorem c_len {a : Nat} (hk : gK G a = 22) : MT E l yJ0_length_8abf5 cJ0_length_8abf5 1 (some .int) 1 20 0 0 [.ref a] G (pD (some (.int (i32 ((gL G a).length : Int)))) G) :=
  mt_raw (fun f ow h _ => by
    obtain ⟨d, h1, h2, e1, e2, e3, e4⟩ := pic_text h hk
    exact mr_mono (j_J0_length_8abf5P e1 e4) (fun v f' q _ => by obtain ⟨rfl, rfl⟩ := q; exact ⟨G, ow, h, rfl, rfl⟩))
theorem c_chr {a i x : Nat} (hk : gK G a = 22) (hx : (gL G a)[i]? = some x) : MT E l yJ0_charAt_5068e cJ0_charAt_5068e 2 (some .char) 3 64 0 0 [.ref a, .int (i32 (i : Int))] G (pD (some (.int (i32 (x : Int)))) G) :=
  mt_raw (fun f ow h _ => by
    obtain ⟨d, h1, h2, e1, e2, e3, e4⟩ := pic_text h hk
    have hl := (List.getElem?_eq_some_iff.mp hx).1
    have hd : (gL G a).getD i 0 = x := by rw [List.getD_eq_getElem?_getD, hx]; rfl
    exact mr_mono (j_J0_charAt_5068e (c0 := x) e1 e4 ⟨hl, by omega⟩ ⟨by rw [hd], e3 x (List.mem_of_getElem? hx)⟩) (fun v f' q _ => by obtain ⟨rfl, rfl⟩ := q; exact ⟨G, ow, h, rfl, rfl⟩))
end XLS
