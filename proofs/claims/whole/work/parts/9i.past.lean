/-! requests that were made stay as they were -/
def rkKp (B : Nat → Nat) (G G' : GT) : Prop := (∀ x, gK G x ≠ 0 → gK G' x = gK G x) ∧ ((∀ k x, gK G x ≠ 0 → (700 ≤ k ∧ k < 712) ∨ k = 1301 → gI G' k x = gI G k x) ∧ ∀ k x, gK G x ≠ 0 → (700 ≤ k ∧ k < 708) ∨ k = 1300 ∨ k = 1304 → gP G' k x = gP G k x) ∧ (∀ x, gK G x ≠ 0 → (∀ i, i < 10 → x ≠ B i) → gL G' x = gL G x) ∧ (∀ x, gK G x ≠ 0 → gK G x ≠ 26 → gA G' x = gA G x) ∧ gR G' = gR G ∧ ∀ k x, 1500 ≤ k → gP G' k x = gP G k x
def rkKq (G G' : GT) : Prop := (∀ x, gK G x ≠ 0 → gK G' x = gK G x) ∧ ((∀ k x, gK G x ≠ 0 → (700 ≤ k ∧ k < 712) ∨ k = 1301 → gI G' k x = gI G k x) ∧ ∀ k x, gK G x ≠ 0 → (700 ≤ k ∧ k < 708) ∨ k = 1300 ∨ k = 1304 → gP G' k x = gP G k x) ∧ (∀ x, gK G x ≠ 0 → gK G x ≠ 26 → gA G' x = gA G x)
def rkRr (G : GT) (B : Nat → Nat) (R : RT) (r : Int) (x : Nat) : Prop := rkSt G B R r x ∧ rkVd G B R r x
/-- the rows of requests and hops up to some place -/
def rkOw (R S : RT) (p : Int) : Prop := (∀ j : Nat, j ≠ (R 28 0).toNat → S 29 j = R 29 j) ∧ (∀ j : Nat, j ≠ (R 28 0).toNat → S 30 j = R 30 j) ∧ ∀ j : Nat, (j : Int) < p → S 31 j = R 31 j ∧ S 32 j = R 32 j ∧ ∀ i : Nat, i < 12 → S 33 (12 * j + i) = R 33 (12 * j + i)
section PAST
variable {ks ls : List Nat} {G0 G G' : GT} {B : Nat → Nat} {R S T : RT} {rq ch x : Nat} {r q p : Int}
theorem rkKp_rfl : rkKp B G G := ⟨fun _ _ => rfl, ⟨fun _ _ _ _ => rfl, fun _ _ _ _ => rfl⟩, fun _ _ _ => rfl, fun _ _ _ => rfl, rfl, fun _ _ _ => rfl⟩
theorem rkKp_tr (h : rkKp B G0 G) (k : rkKp B G G') : rkKp B G0 G' := by
  have n : ∀ x, gK G0 x ≠ 0 → gK G x ≠ 0 := fun x hx => by rw [h.1 x hx]; exact hx
  exact ⟨fun x hx => (k.1 x (n x hx)).trans (h.1 x hx), ⟨fun j x hx hj => (k.2.1.1 j x (n x hx) hj).trans (h.2.1.1 j x hx hj), fun j x hx hj => (k.2.1.2 j x (n x hx) hj).trans (h.2.1.2 j x hx hj)⟩, fun x hx hB => (k.2.2.1 x (n x hx) hB).trans (h.2.2.1 x hx hB), fun x hx h26 => (k.2.2.2.1 x (n x hx) (by rw [h.1 x hx]; exact h26)).trans (h.2.2.2.1 x hx h26), k.2.2.2.2.1.trans h.2.2.2.2.1, fun j x hj => (k.2.2.2.2.2 j x hj).trans (h.2.2.2.2.2 j x hj)⟩
theorem rkKp_fr (h : rkFr ks ls G G') (hks : ∀ k ∈ ks, (k < 700 ∨ 712 ≤ k) ∧ k ≠ 1300 ∧ k ≠ 1301 ∧ k ≠ 1304) (hls : ∀ x ∈ ls, gK G x = 0 ∨ ∃ i, i < 10 ∧ x = B i) : rkKp B G G' :=
  ⟨h.1, ⟨fun k x hx hk => (h.2.1 k x hx (fun z => by have := hks k z; omega)).1, fun k x hx hk => (h.2.1 k x hx (fun z => by have := hks k z; omega)).2⟩, fun x hx hB => h.2.2.1 x hx (fun z => (hls x z).elim (fun y => hx y) (fun ⟨i, i1, i2⟩ => hB i i1 i2)), fun x hx _ => h.2.2.2.2.2 (fun z => by have := hks _ z; omega) x hx, h.2.2.2.1, h.2.2.2.2.1⟩
/-- through a hop of a request that is newer -/
theorem rkKp_hop (h : rkKp B G0 G) (hf : rkFr rkTk [B 9, B 5, B 8, ch] G G') (hol : rkOl G G') (hc : gK G0 ch = 0) : rkKp B G0 G' := by
  have n : ∀ x, gK G0 x ≠ 0 → gK G x ≠ 0 := fun x hx => by rw [h.1 x hx]; exact hx
  refine ⟨fun x hx => (hf.1 x (n x hx)).trans (h.1 x hx), ⟨fun j x hx hj => ?_, fun j x hx hj => ((hf.2.1 j x (n x hx) (fun z => by simp [rkTk] at z; omega)).2).trans (h.2.1.2 j x hx hj)⟩, fun x hx hB => ?_, fun x hx h26 => ((hol x (n x hx)).2).trans (h.2.2.2.1 x hx h26), hf.2.2.2.1.trans h.2.2.2.2.1, fun j x hj => (hf.2.2.2.2.1 j x hj).trans (h.2.2.2.2.2 j x hj)⟩
  · refine Eq.trans ?_ (h.2.1.1 j x hx hj)
    by_cases c : 708 ≤ j ∧ j ≤ 711
    · exact (hol x (n x hx)).1 j c.1 c.2
    · exact (hf.2.1 j x (n x hx) (fun z => by simp [rkTk] at z; omega)).1
  · refine (hf.2.2.1 x (n x hx) (fun z => ?_)).trans (h.2.2.1 x hx hB)
    simp at z
    rcases z with z | z | z | z
    · exact hB 9 (by decide) z
    · exact hB 5 (by decide) z
    · exact hB 8 (by decide) z
    · rw [z] at hx; exact hx hc
/-- hops stay -/
theorem rkKp_kq (h : rkKp B G G') : rkKq G G' := ⟨h.1, h.2.1, h.2.2.2.1⟩
theorem rkKq_hop (hf : rkFr rkTk ls G G') (hol : rkOl G G') : rkKq G G' := by
  refine ⟨hf.1, ⟨fun j x hx hj => ?_, fun j x hx hj => (hf.2.1 j x hx (fun z => by simp [rkTk] at z; omega)).2⟩, fun x hx _ => (hol x hx).2⟩
  by_cases c : 708 ≤ j ∧ j ≤ 711
  · exact (hol x hx).1 j c.1 c.2
  · exact (hf.2.1 j x hx (fun z => by simp [rkTk] at z; omega)).1
theorem rkHp_k (hh : rkHp G B R q x) (h : rkKq G G') (h2 : ∀ i, 0 ≤ i → i < R 7 0 → rkAt G' (B 2) i = rkAt G (B 2) i) (h7 : R 7 0 ≤ S 7 0) (hS : S 31 q.toNat = R 31 q.toNat ∧ S 32 q.toNat = R 32 q.toNat ∧ ∀ j : Int, 0 ≤ j → j < R 32 q.toNat → S 33 (12 * q + j).toNat = R 33 (12 * q + j).toNat) : rkHp G' B S q x := by
  obtain ⟨a, me, ta, af, nv, pt, ⟨hk, hp0, hp1, hp2, hp3, hp4, hp5⟩, h0, h31, h32, ar, s1, s2, s3, s4⟩ := hh
  have hn : gK G x ≠ 0 := by rw [hk]; decide
  have ha : gK G ar ≠ 0 := by rw [s2]; decide
  have I : ∀ k, 700 ≤ k → k < 712 → gI G' k x = gI G k x := fun k k1 k2 => h.2.1.1 k x hn (by omega)
  have P : ∀ k, 700 ≤ k → k < 708 → gP G' k x = gP G k x := fun k k1 k2 => h.2.1.2 k x hn (by omega)
  refine ⟨a, me, ta, af, nv, pt, ⟨(h.1 x hn).trans hk, by rw [P 700 (by decide) (by decide), hp0, h2 a h0.1 h0.2], (I 701 (by decide) (by decide)).trans hp1, (I 702 (by decide) (by decide)).trans hp2, (I 703 (by decide) (by decide)).trans hp3, (I 704 (by decide) (by decide)).trans hp4, (I 705 (by decide) (by decide)).trans hp5⟩, ⟨h0.1, by omega⟩, by rw [hS.1, I 706 (by decide) (by decide)]; exact h31, by rw [hS.2.1]; exact h32, ar, (P 707 (by decide) (by decide)).trans s1, (h.1 ar ha).trans s2, ((I 708 (by decide) (by decide)).trans s3).trans hS.2.1.symm, fun j j0 j1 => ?_⟩
  rw [hS.2.1] at j1
  rw [h.2.2 ar ha (by rw [s2]; decide), hS.2.2 j j0 j1]
  exact s4 j j0 j1
theorem rkJf_eq {md pg : Int} {av tv rf lt rd rf' lt' rd' : Int → Int} : ∀ (n : Nat) (j : Int) (w : Bool), (∀ i, j ≤ i → i < j + n → rkMx S md (av i) pg = rkMx R md (av i) pg ∧ rkCr S (tv i) (av i) pg = rkCr R (tv i) (av i) pg ∧ rf' i = rf i ∧ lt' i = lt i ∧ rd' i = rd i) → rkJf S md pg av tv rf' lt' rd' n j w = rkJf R md pg av tv rf lt rd n j w := by
  intro n
  induction n with
  | zero => intro j w _; rfl
  | succ n ih =>
    intro j w h
    obtain ⟨a, b, c, d, e⟩ := h j (Int.le_refl _) (by omega)
    rw [rkJf, rkJf, a, b, c, d, e, ih (j + 1) _ (fun i i0 i1 => h i (by omega) (by omega))]
theorem rkJv_eq {md pg a t : Int} (h61 : 0 ≤ pg ∧ pg < R 24 0) (hP : RP R) (h0 : 0 ≤ a ∧ a < R 7 0) (h25 : ∀ j : Nat, (j : Int) < R 24 0 → S 25 j = R 25 j) (h8 : ∀ j : Nat, (j : Int) < R 7 0 → S 8 j = R 8 j ∧ S 9 j = R 9 j ∧ S 10 j = R 10 j) : rkMx S md a pg = rkMx R md a pg ∧ rkCr S t a pg = rkCr R t a pg := by
  have u := (hP.2 pg.toNat (by omega)).1
  have e25 := h25 pg.toNat (by omega)
  obtain ⟨a8, a9, a10⟩ := h8 a.toNat (by omega)
  obtain ⟨b8, b9, b10⟩ := h8 (R 25 pg.toNat).toNat (by omega)
  unfold rkMx rkCr rSame rGate
  rw [e25, a8, a9, a10, b8, b9, b10]
  exact ⟨rfl, rfl⟩
/-- a request stays -/
theorem rkRr_k (hr : rkRr G B R r x) (hP : RP R) (h : rkKp B G G') (hr0 : 0 ≤ r ∧ r < p) (h2 : ∀ i, 0 ≤ i → i < R 7 0 → rkAt G' (B 2) i = rkAt G (B 2) i) (h3 : ∀ i, 0 ≤ i → i < R 24 0 → rkAt G' (B 3) i = rkAt G (B 3) i) (h7 : R 7 0 ≤ S 7 0) (h24 : R 24 0 ≤ S 24 0) (h25 : ∀ j : Nat, (j : Int) < R 24 0 → S 25 j = R 25 j) (h8 : ∀ j : Nat, (j : Int) < R 7 0 → S 8 j = R 8 j ∧ S 9 j = R 9 j ∧ S 10 j = R 10 j) (hO : rkOw R S (6 * p)) (h28 : p ≤ R 28 0) : rkRr G' B S r x := by
  obtain ⟨⟨hk, ch, c1, c2, c3, c4⟩, pg, md, ch2, av, tv, ⟨v1, v2, v3, v4⟩, v5, v6, v7, v8⟩ := hr
  have ec : ch2 = ch := Option.some.inj (v3.symm.trans c1)
  subst ec
  have hn : gK G x ≠ 0 := by rw [hk]; decide
  have hc : gK G ch2 ≠ 0 := by rw [c2]; decide
  have el := h.2.2.1 ch2 hc v4
  obtain ⟨o1, o2, o3⟩ := hO
  have e30 : S 30 r.toNat = R 30 r.toNat := o2 _ (by omega)
  have e29 : S 29 r.toNat = R 29 r.toNat := o1 _ (by omega)
  have E : ∀ j, 0 ≤ j → j < R 30 r.toNat → gK G (rkAt G ch2 j) ≠ 0 := fun j j0 j1 => by
    obtain ⟨_, _, _, _, _, _, hv, -⟩ := c4 j j0 j1
    rw [hv.1]; decide
  have hpr : ∀ j, 0 ≤ j → j < R 30 r.toNat → rkHp G' B S (6 * r + j) (rkAt G' ch2 j) := fun j j0 j1 => by
    have hh := c4 j j0 j1
    have h32 := hh
    obtain ⟨_, _, _, _, _, _, -, -, -, k32, -⟩ := h32
    obtain ⟨y1, y2, y3⟩ := o3 (6 * r + j).toNat (by omega)
    rw [rkAt_same el]
    refine rkHp_k hh (rkKp_kq h) h2 h7 ⟨y1, y2, fun i i0 i1 => ?_⟩
    have := y3 i.toNat (by omega)
    rw [show (12 * (6 * r + j) + i).toNat = 12 * (6 * r + j).toNat + i.toNat by omega]
    exact this
  refine ⟨⟨(h.1 x hn).trans hk, ch2, (h.2.1.2 1304 x hn (by omega)).trans c1, (h.1 ch2 hc).trans c2, by rw [el, e30]; exact c3, fun j j0 j1 => hpr j j0 (by rw [e30] at j1; exact j1)⟩, pg, md, ch2, av, tv, ⟨?_, (h.2.1.1 1301 x hn (by omega)).trans v2, (h.2.1.2 1304 x hn (by omega)).trans v3, v4⟩, ⟨v5.1, by omega⟩, by rw [e30]; exact v6, fun j j0 j1 => ?_, ?_⟩
  · rw [h.2.1.2 1300 x hn (by omega), h3 pg v5.1 v5.2]; exact v1
  · rw [e30] at j1
    obtain ⟨w1, w2, w3⟩ := v7 j j0 j1
    have hx := E j j0 j1
    rw [rkAt_same el, h.2.1.2 700 _ hx (by omega), h.2.1.1 702 _ hx (by omega), h2 _ w1.1 w1.2]
    exact ⟨⟨w1.1, by omega⟩, w2, w3⟩
  · rw [e29, v8, e30]
    refine (rkJf_eq _ _ _ (fun i i0 i1 => ?_)).symm
    have hi : i < R 30 r.toNat := by omega
    obtain ⟨w1, w2, w3⟩ := v7 i i0 hi
    have hx := E i i0 hi
    obtain ⟨y1, y2⟩ := rkJv_eq (S := S) (md := md) (t := tv i) v5 hP w1 h25 h8
    refine ⟨y1, y2, ?_, ?_, ?_⟩
    · (try dsimp only); rw [rkAt_same el, h.2.1.1 709 _ hx (by omega)]
    · (try dsimp only); rw [rkAt_same el, h.2.1.1 710 _ hx (by omega)]
    · (try dsimp only); rw [rkAt_same el, h.2.1.1 711 _ hx (by omega)]
theorem rkOw_rfl (h : ∀ f : Nat, 29 ≤ f → f ≤ 33 → S f = R f) : rkOw R S p := ⟨fun j _ => by rw [h 29 (by decide) (by decide)], fun j _ => by rw [h 30 (by decide) (by decide)], fun j _ => ⟨by rw [h 31 (by decide) (by decide)], by rw [h 32 (by decide) (by decide)], fun i _ => by rw [h 33 (by decide) (by decide)]⟩⟩
theorem rkOw_tr {s : Int} (h : rkOw R S p) (k : rkOw S T s) (hs : p ≤ s) (h28 : S 28 0 = R 28 0) : rkOw R T p := by
  obtain ⟨a1, a2, a3⟩ := h
  obtain ⟨b1, b2, b3⟩ := k
  refine ⟨fun j hj => (b1 j (by rw [h28]; exact hj)).trans (a1 j hj), fun j hj => (b2 j (by rw [h28]; exact hj)).trans (a2 j hj), fun j hj => ?_⟩
  obtain ⟨x1, x2, x3⟩ := a3 j hj
  obtain ⟨y1, y2, y3⟩ := b3 j (by omega)
  exact ⟨y1.trans x1, y2.trans x2, fun i hi => (y3 i hi).trans (x3 i hi)⟩
/-- all requests stay, other rows change -/
theorem rkPs_k (hp : rkPs G B R) (hP : RP R) (h : rkKp B G G') (h4 : gL G' (B 4) = gL G (B 4)) (h2 : ∀ i, 0 ≤ i → i < R 7 0 → rkAt G' (B 2) i = rkAt G (B 2) i) (h3 : ∀ i, 0 ≤ i → i < R 24 0 → rkAt G' (B 3) i = rkAt G (B 3) i) (h7 : R 7 0 ≤ S 7 0) (h24 : R 24 0 ≤ S 24 0) (h25 : ∀ j : Nat, (j : Int) < R 24 0 → S 25 j = R 25 j) (h8 : ∀ j : Nat, (j : Int) < R 7 0 → S 8 j = R 8 j ∧ S 9 j = R 9 j ∧ S 10 j = R 10 j) (hS : ∀ f : Nat, 28 ≤ f → f ≤ 33 → S f = R f) : rkPs G' B S := by
  obtain ⟨⟨p1, p2⟩, p3⟩ := hp
  have e28 : S 28 0 = R 28 0 := by rw [hS 28 (by decide) (by decide)]
  have g : ∀ r, 0 ≤ r → r < R 28 0 → rkRr G' B S r (rkAt G (B 4) r) := fun r r0 r1 => rkRr_k ⟨p2 r r0 r1, p3 r r0 r1⟩ hP h ⟨r0, r1⟩ h2 h3 h7 h24 h25 h8 (rkOw_rfl (fun f f1 f2 => hS f (by omega) f2)) (Int.le_refl _)
  refine ⟨⟨by rw [h4, e28]; exact p1, fun r r0 r1 => ?_⟩, fun r r0 r1 => ?_⟩
  · rw [rkAt_same h4]; exact (g r r0 (by omega)).1
  · rw [rkAt_same h4]; exact (g r r0 (by omega)).2
end PAST
