/-! the relation of hosts, addresses and pages is kept by what doesn't touch them -/
def rkOf (k : Nat) : Bool := k / 100 == 3 || k / 100 == 6 || k / 100 == 8 || k / 100 == 10 || k == 900 || k == 1100 || (1400 ≤ k && k ≤ 1406)
section KPT
variable {ks ls : List Nat} {G G' : GT} {B : Nat → Nat} {R : RT}
theorem fr_I (h : rkFr ks ls G G') (hks : ∀ k ∈ ks, rkOf k = false) {k x : Nat} (hx : gK G x ≠ 0) (hk : rkOf k = true) : gI G' k x = gI G k x := (h.2.1 k x hx (fun z => by rw [hks k z] at hk; cases hk)).1
theorem fr_P (h : rkFr ks ls G G') (hks : ∀ k ∈ ks, rkOf k = false) {k x : Nat} (hx : gK G x ≠ 0) (hk : rkOf k = true) : gP G' k x = gP G k x := (h.2.1 k x hx (fun z => by rw [hks k z] at hk; cases hk)).2
theorem rkB_fr (hB : rkB G B) (h : rkFr ks ls G G') (hks : ∀ k ∈ ks, rkOf k = false) : rkB G' B := by
  obtain ⟨⟨b0, b6, b7⟩, ⟨k1, k2, k3, k4, k5, k8, k9⟩, ⟨p0, p1, p2, p3, p4, p5, p6, p7, p8⟩, hne⟩ := hB
  have K : ∀ {x c : Nat}, gK G x = c → c ≠ 0 → gK G' x = c := fun hx hc => (h.1 _ (by rw [hx]; exact hc)).trans hx
  have P : ∀ {k x c b : Nat}, gP G k x = some b → gK G x = c → c ≠ 0 → rkOf k = true → gP G' k x = some b := fun hp hx hc hk => (fr_P h hks (by rw [hx]; exact hc) hk).trans hp
  exact ⟨⟨K b0 (by decide), K b6 (by decide), K b7 (by decide)⟩, ⟨K k1 (by decide), K k2 (by decide), K k3 (by decide), K k4 (by decide), K k5 (by decide), K k8 (by decide), K k9 (by decide)⟩,
    ⟨P p0 b0 (by decide) rfl, P p1 b0 (by decide) rfl, P p2 b0 (by decide) rfl, P p3 b0 (by decide) rfl, P p4 b0 (by decide) rfl, P p5 b0 (by decide) rfl, P p6 b0 (by decide) rfl, P p7 b6 (by decide) rfl, P p8 b7 (by decide) rfl⟩, hne⟩
theorem rkHo_fr {i : Int} {x : Nat} (hH : rkHo G B R i x) (h : rkFr ks ls G G') (hks : ∀ k ∈ ks, rkOf k = false) (h1 : gL G' (B 1) = gL G (B 1)) : rkHo G' B R i x := by
  obtain ⟨f1, f2, f3, f4, f5, f6⟩ := hH
  have hx : gK G x ≠ 0 := by rw [f1]; decide
  exact ⟨(h.1 x hx).trans f1, (fr_I h hks hx rfl).trans f2, (fr_P h hks hx rfl).trans (f3.trans (rkOp_same h1 _).symm), (fr_I h hks hx rfl).trans f4, (fr_I h hks hx rfl).trans f5, (fr_I h hks hx rfl).trans f6⟩
theorem rkH_fr (hH : rkH G B R) (h : rkFr ks ls G G') (hks : ∀ k ∈ ks, rkOf k = false) (h1 : gL G' (B 1) = gL G (B 1)) : rkH G' B R :=
  ⟨by rw [h1]; exact hH.1, fun i i0 i1 => by rw [rkAt_same h1]; exact rkHo_fr (hH.2 i i0 i1) h hks h1⟩
theorem rkLn_fr {i : Int} {c : Nat} (hL : rkLn G B R i c) (h : rkFr ks ls G G') (hks : ∀ k ∈ ks, rkOf k = false) (h1 : gL G' (B 1) = gL G (B 1)) : rkLn G' B R i c := by
  obtain ⟨l1, l2, l3, l4, l5, l6, l7⟩ := hL
  have hx : gK G c ≠ 0 := by rw [l1]; decide
  exact ⟨(h.1 c hx).trans l1, (fr_I h hks hx rfl).trans l2, (fr_I h hks hx rfl).trans l3, (fr_P h hks hx rfl).trans (l4.trans (rkOp_same h1 _).symm), (fr_I h hks hx rfl).trans l5, (fr_I h hks hx rfl).trans l6, (fr_I h hks hx rfl).trans l7⟩
theorem rkAd_fr {i : Int} {x : Nat} (hA : rkAd G B R i x) (h : rkFr ks ls G G') (hks : ∀ k ∈ ks, rkOf k = false) (h1 : gL G' (B 1) = gL G (B 1)) (h2 : gL G' (B 2) = gL G (B 2)) (h22 : ∀ x ∈ ls, gK G x ≠ 22) : rkAd G' B R i x := by
  obtain ⟨⟨a1, a2, a3, a4, a5, a6⟩, ⟨w, a7, a8, a9⟩, ⟨a10, a11, a12, a13, a14, a15⟩, a16⟩ := hA
  have hx : gK G x ≠ 0 := by rw [a1]; decide
  have hw : gK G w ≠ 0 := by rw [a8]; decide
  refine ⟨⟨(h.1 x hx).trans a1, (fr_I h hks hx rfl).trans a2, (fr_I h hks hx rfl).trans a3, (fr_P h hks hx rfl).trans (a4.trans (by rw [rkAt_same h1])), (fr_I h hks hx rfl).trans a5, (fr_I h hks hx rfl).trans a6⟩,
    ⟨w, (fr_P h hks hx rfl).trans a7, (h.1 w hw).trans a8, by rw [h.2.2.1 w hw (fun z => h22 w z a8)]; exact a9⟩,
    ⟨(fr_P h hks hx rfl).trans (a10.trans (rkOp_same h2 _).symm), (fr_I h hks hx rfl).trans a11, (fr_I h hks hx rfl).trans a12, (fr_I h hks hx rfl).trans a13, (fr_I h hks hx rfl).trans a14, (fr_I h hks hx rfl).trans a15⟩, ?_⟩
  rcases a16 with ⟨z1, z2⟩ | ⟨z1, c, z2, z3⟩
  · exact Or.inl ⟨z1, (fr_P h hks hx rfl).trans z2⟩
  · exact Or.inr ⟨z1, c, (fr_P h hks hx rfl).trans z2, rkLn_fr z3 h hks h1⟩
theorem rkA_fr (hA : rkA G B R) (h : rkFr ks ls G G') (hks : ∀ k ∈ ks, rkOf k = false) (h1 : gL G' (B 1) = gL G (B 1)) (h2 : gL G' (B 2) = gL G (B 2)) (h22 : ∀ x ∈ ls, gK G x ≠ 22) : rkA G' B R :=
  ⟨by rw [h2]; exact hA.1, fun i i0 i1 => by rw [rkAt_same h2]; exact rkAd_fr (hA.2 i i0 i1) h hks h1 h2 h22⟩
theorem rkPa_fr {i : Int} {x : Nat} (hP : rkPa G B R i x) (h : rkFr ks ls G G') (hks : ∀ k ∈ ks, rkOf k = false) (h2 : gL G' (B 2) = gL G (B 2)) (h3 : gL G' (B 3) = gL G (B 3)) : rkPa G' B R i x := by
  obtain ⟨f1, f2, f3, f4⟩ := hP
  have hx : gK G x ≠ 0 := by rw [f1]; decide
  exact ⟨(h.1 x hx).trans f1, (fr_P h hks hx rfl).trans (f2.trans (by rw [rkAt_same h2])), (fr_P h hks hx rfl).trans (f3.trans (rkOp_same h3 _).symm), (fr_I h hks hx rfl).trans f4⟩
theorem rkP_fr (hP : rkP G B R) (h : rkFr ks ls G G') (hks : ∀ k ∈ ks, rkOf k = false) (h2 : gL G' (B 2) = gL G (B 2)) (h3 : gL G' (B 3) = gL G (B 3)) : rkP G' B R :=
  ⟨by rw [h3]; exact hP.1, fun i i0 i1 => by rw [rkAt_same h3]; exact rkPa_fr (hP.2 i i0 i1) h hks h2 h3⟩
theorem rkW_fr (hW : rkW G B R) (h : rkFr ks ls G G') (hks : ∀ k ∈ ks, rkOf k = false) (hls : B 1 ∉ ls ∧ B 2 ∉ ls ∧ B 3 ∉ ls) (h22 : ∀ x ∈ ls, gK G x ≠ 22) : rkW G' B R := by
  obtain ⟨hB, hH, hA, hP, hI⟩ := hW
  have e1 := h.2.2.1 (B 1) (by rw [hB.2.1.1]; decide) hls.1
  have e2 := h.2.2.1 (B 2) (by rw [hB.2.1.2.1]; decide) hls.2.1
  have e3 := h.2.2.1 (B 3) (by rw [hB.2.1.2.2.1]; decide) hls.2.2
  exact ⟨rkB_fr hB h hks, rkH_fr hH h hks e1, rkA_fr hA h hks e1 e2 h22, rkP_fr hP h hks e2 e3, hI⟩
end KPT
/-- builders in the form of a chain -/
theorem sL_sL {G : GT} {a : Nat} {v w : List Nat} : sL (sL G a v) a w = sL G a w := by
  unfold sL
  congr 4
  funext x
  show va_up (va_up (gL G) a v) a w x = va_up (gL G) a w x
  by_cases h : x = a
  · rw [show va_up (va_up (gL G) a v) a w x = w from if_pos h, show va_up (gL G) a w x = w from if_pos h]
  · rw [show va_up (va_up (gL G) a v) a w x = va_up (gL G) a v x from if_neg h, show va_up (gL G) a v x = gL G x from if_neg h, show va_up (gL G) a w x = gL G x from if_neg h]
theorem sL_self {G : GT} {a : Nat} : sL G a (gL G a) = G := by
  have e : va_up G.2.2.2.1 a (gL G a) = G.2.2.2.1 := by
    funext x
    by_cases h : x = a
    · rw [show va_up G.2.2.2.1 a (gL G a) x = gL G a from if_pos h, h]
      rfl
    · exact if_neg h
  unfold sL
  rw [e]
section APP
variable {E : EV} {l : Launch} {G : GT} {ys : List Nat}
theorem c_apS2 {a ms i : Nat} (hk : gK G a = 24) (hi : i < 2) (hn : ys.length + 8 ≤ 1000 ∧ 2 * (ys.length + 8) + 2 ≤ ms) : MT E l yJ4_append_15ec4 cJ4_append_15ec4 2 (some (.object "java/lang/StringBuilder")) 5 127 1 ms [.ref a, .ref (kS E i)] (sL G a ys) (pD (some (.ref a)) (sL G a (ys ++ kT i))) := by
  have h := c_apS (E := E) (l := l) (G := sL G a ys) (a := a) (ms := ms) (i := i) hk hi (by rw [sL_s]; exact hn)
  rwa [sL_s, sL_sL] at h
theorem c_apI2 {a ms x : Nat} (hk : gK G a = 24) (hx : x ≤ 9999) (hn : ys.length + 8 ≤ 1000 ∧ 2 * (ys.length + 8) + 2 ≤ ms) : MT E l yJ4_append_bf812 cJ4_append_bf812 2 (some (.object "java/lang/StringBuilder")) 5 127 1 ms [.ref a, .int (i32 (x : Int))] (sL G a ys) (pD (some (.ref a)) (sL G a (ys ++ dgs x))) := by
  have h := c_apI (E := E) (l := l) (G := sL G a ys) (a := a) (ms := ms) (x := x) hk hx (by rw [sL_s]; exact hn)
  rwa [sL_s, sL_sL] at h
theorem c_apC2 {a ms x : Nat} (hk : gK G a = 24) (hx : x < 128) (hn : ys.length + 8 ≤ 1000 ∧ 2 * (ys.length + 8) + 2 ≤ ms) : MT E l yJ4_append_cf468 cJ4_append_cf468 2 (some (.object "java/lang/StringBuilder")) 5 125 1 ms [.ref a, .int (i32 (x : Int))] (sL G a ys) (pD (some (.ref a)) (sL G a (ys ++ [x]))) := by
  have h := c_apC (E := E) (l := l) (G := sL G a ys) (a := a) (ms := ms) (x := x) hk hx (by rw [sL_s]; exact hn)
  rwa [sL_s, sL_sL] at h
theorem c_toS2 {a ms : Nat} (hk : gK G a = 24) (hn : ys.length ≤ ms) : MT E l yJ4_toString_0e30d cJ4_toString_0e30d 1 (some (.object "java/lang/String")) 5 151 2 (ms + 4) [.ref a] (sL G a ys) (fun v G' => ∃ q : Nat, gK G q = 0 ∧ v = some (.ref q) ∧ G' = sL (sK (sL G a ys) q 22) q ys) := by
  have h := c_toS (E := E) (l := l) (G := sL G a ys) (a := a) (ms := ms) hk (by rw [sL_s]; exact hn)
  refine mt_mono h (fun v G' z => ?_)
  obtain ⟨q, z1, z2, z3⟩ := z
  exact ⟨q, z1, z2, by rw [z3, sL_s]⟩
end APP
/-- the text of a host, of a path, of an address -/
def rkLb (w : Int) : List Nat := if w < 26 then [(97 + w).toNat] else [(97 + (w - 26) / 26).toNat, (97 + (w - 26) % 26).toNat]
def rkHtF (R : RT) : Nat → Int → List Nat
  | 0, _ => []
  | n + 1, k => if k = -1 then [] else rkLb (R 5 k.toNat) ++ (if R 4 k.toNat = -1 then [] else 46 :: rkHtF R n (R 4 k.toNat))
def rkHt (R : RT) (k : Int) : List Nat := rkHtF R 17 k
theorem rkHtF_fuel {R : RT} (hH : RH R) : ∀ (n m : Nat) (b : Int), -1 ≤ b → b < R 3 0 → b + 1 < n → b + 1 < m → rkHtF R n b = rkHtF R m b := by
  intro n
  induction n with
  | zero => intro m b h0 h1 h2; omega
  | succ n ih =>
    intro m b h0 h1 h2 h3
    cases m with
    | zero => omega
    | succ m =>
      unfold rkHtF
      by_cases c : b = -1
      · rw [if_pos c, if_pos c]
      · rw [if_neg c, if_neg c]
        by_cases c2 : R 4 b.toNat = -1
        · rw [if_pos c2, if_pos c2]
        · have hb := hH.2 b.toNat (by omega)
          rw [if_neg c2, if_neg c2, ih m (R 4 b.toNat) (by omega) (by omega) (by omega) (by omega)]
theorem rkHt_step {R : RT} (hH : RH R) {b : Int} (h0 : 0 ≤ b) (h1 : b < R 3 0) : rkHt R b = rkLb (R 5 b.toNat) ++ (if R 4 b.toNat = -1 then [] else 46 :: rkHt R (R 4 b.toNat)) := by
  have hh := hH.1
  have hb := hH.2 b.toNat (by omega)
  show rkHtF R (16 + 1) b = _
  rw [rkHtF, if_neg (by omega)]
  by_cases c2 : R 4 b.toNat = -1
  · rw [if_pos c2, if_pos c2]
  · rw [if_neg c2, if_neg c2]
    unfold rkHt
    rw [rkHtF_fuel hH 16 17 (R 4 b.toNat) (by omega) (by omega) (by omega) (by omega)]
theorem rkLb_len (w : Int) : (rkLb w).length ≤ 2 := by
  unfold rkLb
  split
  · exact Nat.le_of_ble_eq_true rfl
  · exact Nat.le_of_ble_eq_true rfl
theorem rkHtF_len (R : RT) : ∀ (n : Nat) (b : Int), (rkHtF R n b).length ≤ 3 * n := by
  intro n
  induction n with
  | zero => intro b; exact Nat.le_refl 0
  | succ n ih =>
    intro b
    unfold rkHtF
    split
    · exact Nat.zero_le _
    · rw [List.length_append]
      have := rkLb_len (R 5 b.toNat)
      have h2 := ih (R 4 b.toNat)
      split
      · show _ + 0 ≤ _
        omega
      · rw [List.length_cons]
        omega
theorem rkHt_len (R : RT) (b : Int) : (rkHt R b).length ≤ 51 := rkHtF_len R 17 b
def rkPt (w : Int) : List Nat := if w = 0 then [47] else if w < 10 then [47, (48 + w).toNat] else if w < 100 then [47, (48 + w / 10).toNat, 47, (48 + w % 10).toNat] else [47, (48 + w / 100).toNat, 47, (48 + w / 10 % 10).toNat, 47, (48 + w % 10).toNat]
def rkPo (p : Int) : List Nat := if p = 0 then [] else 58 :: dgs p.toNat
def rkText (R : RT) (s h p w : Int) : List Nat := kT (if s = 1 then 0 else 1) ++ (rkHt R h ++ (rkPo p ++ rkPt w))
