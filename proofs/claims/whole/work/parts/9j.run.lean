/-! the hops of a request, one behind another -/
def rkWs (R : RT) (pg : Int) (av tv : Int → Int) : Nat → Bool
  | 0 => false
  | n + 1 => rkWs R pg av tv n || rkCr R (tv n) (av n) pg
/-- what holds of a request under way, and of its hops -/
def rkCm (B : Nat → Nat) (G0 G : GT) (R0 S : RT) (rq ch : Nat) (pg md k : Int) (av tv : Int → Int) : Prop :=
  rkZ G B S ∧ rkKp B G0 G ∧ (gK G0 rq = 0 ∧ gK G0 ch = 0 ∧ gL G (B 4) = gL G0 (B 4) ++ [rq] ∧ gL G (B 2) = gL G0 (B 2) ∧ gL G (B 3) = gL G0 (B 3)) ∧
  (gK G rq = 13 ∧ gP G 1300 rq = some (rkAt G (B 3) pg) ∧ gI G 1301 rq = md) ∧ (gK G ch = 20 ∧ gP G 1304 rq = some ch ∧ ∀ i, i < 10 → ch ≠ B i) ∧
  (((gL G ch).length : Int) = k ∧ ∀ j, 0 ≤ j → j < k → rkHp G B S (6 * R0 28 0 + j) (rkAt G ch j) ∧ (0 ≤ av j ∧ av j < R0 7 0) ∧ gP G 700 (rkAt G ch j) = some (rkAt G (B 2) (av j)) ∧ gI G 702 (rkAt G ch j) = tv j) ∧
  rkOw R0 S (6 * R0 28 0)
def rkFl (G : GT) (R0 : RT) (ch : Nat) (pg md k : Int) (av : Int → Int) : Prop := ∀ j, 0 ≤ j → j < k → (gI G 709 (rkAt G ch j) = 0 ∧ gI G 710 (rkAt G ch j) = 1 ∧ gI G 711 (rkAt G ch j) = 1) ∧ rkMx R0 md (av j) pg = false
section RUN
variable {ks ls : List Nat} {G0 G G' : GT} {B : Nat → Nat} {R R0 S T : RT} {rq ch x : Nat} {r q p pg md cr k n a b : Int} {av tv : Int → Int}
theorem rkJf_pre {rf lt rd : Int → Int} (h : ∀ j, 0 ≤ j → j < k → (rf j = 0 ∧ lt j = 1 ∧ rd j = 1) ∧ rkMx R md (av j) pg = false) (hk : k ≤ 5) : ∀ m : Nat, (m : Int) ≤ k → (m : Int) ≤ n → rkJf R md pg av tv rf lt rd n.toNat 0 false = rkJf R md pg av tv rf lt rd (n - m).toNat m (rkWs R pg av tv m) := by
  intro m
  induction m with
  | zero => intro _ _; rw [show (n - ((0 : Nat) : Int)).toNat = n.toNat by omega]; rfl
  | succ m ih =>
    intro h1 h2
    obtain ⟨⟨f1, f2, f3⟩, f4⟩ := h m (by omega) (by omega)
    rw [ih (by omega) (by omega), rkJf_s (by omega), if_neg (by rw [f4]; decide), if_neg (fun z => z f1), if_neg (by rw [f2]; decide), if_neg (fun z => by omega), show ((m + 1 : Nat) : Int) = (m : Int) + 1 by omega]
    rfl
theorem rkWs_eq {av' tv' : Int → Int} : ∀ m : Nat, (∀ j : Nat, j < m → av' j = av j ∧ tv' j = tv j) → rkWs R pg av' tv' m = rkWs R pg av tv m := by
  intro m
  induction m with
  | zero => intro _; rfl
  | succ m ih =>
    intro h
    obtain ⟨a, b⟩ := h m (by omega)
    rw [rkWs, rkWs, ih (fun j hj => h j (by omega)), a, b]
/-- one hop writes its own rows alone -/
theorem rSndK_33 {a w len : Int} (hq : 0 ≤ q) : ∀ (n : Nat) (T : RT), 0 ≤ T 32 q.toNat → 0 ≤ rSndK a w q len n T 32 q.toNat ∧ ∀ i : Nat, (i : Int) < 12 * q → rSndK a w q len n T 33 i = T 33 i := by
  intro n
  induction n with
  | zero => intro T h; exact ⟨h, fun _ _ => rfl⟩
  | succ n ih =>
    intro T h
    obtain ⟨a1, a2⟩ := ih T h
    rw [rSndK]
    split
    · unfold rSnd1
      refine ⟨?_, fun i hi => ?_⟩
      · rw [u2_k (by decide), u2_k (by decide), u2_s]; omega
      · rw [u2_k (by decide), u2_k (by decide), u2_k (by decide), u2_a (by omega), a2 i hi]
    · exact ⟨a1, a2⟩
theorem rSndL_33 {a w : Int} (hq : 0 ≤ q) (h : 0 ≤ R 32 q.toNat) : ∀ n : Nat, 0 ≤ rSndL R a w q n 32 q.toNat ∧ ∀ i : Nat, (i : Int) < 12 * q → rSndL R a w q n 33 i = R 33 i := by
  intro n
  induction n with
  | zero => exact ⟨h, fun _ _ => rfl⟩
  | succ n ih =>
    rw [rSndL]
    obtain ⟨a1, a2⟩ := rSndK_33 (a := a) (w := w) (len := 3 - (n : Int)) hq (R 34 0).toNat _ ih.1
    exact ⟨a1, fun i hi => (a2 i hi).trans (ih.2 i hi)⟩
theorem rkOw_rec {m : Int} (hq : 0 ≤ q) : rkOw R (rRec R m q) q := by
  unfold rRec
  refine ⟨fun j _ => ?_, fun j hj => ?_, fun j hj => ⟨?_, ?_, fun i hi => ?_⟩⟩
  · rw [u2_k (by decide), u2_k (by decide), u2_k (by decide)]
  · rw [u2_a hj, u2_k (by decide), u2_k (by decide)]
  · rw [u2_k (by decide), u2_k (by decide), u2_a (by omega)]
  · rw [u2_k (by decide), u2_a (by omega), u2_k (by decide)]
  · rw [u2_k (by decide), u2_k (by decide), u2_k (by decide)]
theorem rkOw_does {m : Int} (hX : RX R n) (hH : RH R) (hA : RA R) (hD : RAd R) (hS : RS R) (hm : 0 ≤ m ∧ m < R 7 0) (h32 : R 32 q.toNat = 0) (hq : 0 ≤ q) : rkOw R (rDoesR R m q) q := by
  have e3 : ∀ f : Nat, 29 ≤ f → f ≤ 33 → rD3 R m f = R f := fun f h1 h2 => (rD3_I hX.2.1 hX.2.2.2.1.1).1 f (by omega) (by omega) (by omega) (by omega)
  have e4 : ∀ f : Nat, 29 ≤ f → f ≤ 34 → rD4 R m f = R f := fun f h1 h2 => rD4_x hX (by omega) (by omega) (by omega) (by omega)
  unfold rDoesR
  split
  · exact rkOw_rfl e3
  · unfold rD5
    split
    · obtain ⟨g1, g2, g3, -⟩ := rD4_I (a := m) hX
      obtain ⟨x1, x2, x3, x4, x5, -⟩ := hX
      have s := rSends_I (R := rD4 R m) (a := m) (w := rWhere R m) (q := q) (by rw [e4 32 (by decide) (by decide)]; exact h32) (by omega) (by have := g1.1; omega)
      have sF : Fs R (rSends (rD4 R m) m (rWhere R m) q) := rD4_Fq.Fs.trans s.Fs
      have t := rSets_I (R := rSends (rD4 R m) m (rWhere R m) q) (a := m) (w := rWhere R m) (sF.A hA) (sF.Ad hD) (sF.S hS) (s.C g1) (by rw [sF 7 (by decide) (by decide)]; exact hm) (by rw [s.1 34 (by decide) (by decide) (by decide) (by decide), e4 34 (by decide) (by decide)]; exact x3)
      have l := rSndL_33 (R := rD4 R m) (a := m) (w := rWhere R m) hq (by rw [e4 32 (by decide) (by decide), h32]; exact Int.le_refl _) 4
      refine ⟨fun j _ => ?_, fun j hj => ?_, fun j hj => ⟨?_, ?_, fun i hi => ?_⟩⟩
      · rw [t.1 29 (by decide) (by decide), s.1 29 (by decide) (by decide) (by decide) (by decide), e4 29 (by decide) (by decide)]
      · rw [t.1 30 (by decide) (by decide), s.1 30 (by decide) (by decide) (by decide) (by decide), e4 30 (by decide) (by decide)]
      · rw [t.1 31 (by decide) (by decide), s.1 31 (by decide) (by decide) (by decide) (by decide), e4 31 (by decide) (by decide)]
      · rw [t.1 32 (by decide) (by decide), show rSends (rD4 R m) m (rWhere R m) q 32 j = rD4 R m 32 j from rSndL_32 (by omega) 4, e4 32 (by decide) (by decide)]
      · rw [t.1 33 (by decide) (by decide), show rSends (rD4 R m) m (rWhere R m) q 33 (12 * j + i) = rD4 R m 33 (12 * j + i) from l.2 _ (by omega), e4 33 (by decide) (by decide)]
    · exact rkOw_rfl (fun f h1 h2 => e4 f h1 (by omega))
theorem rkOw_le (h : rkOw R S p) (hqp : q ≤ p) : rkOw R S q := ⟨h.1, h.2.1, fun j hj => h.2.2 j (by omega)⟩
/-- the hops that stand, and one more -/
theorem rkCm_hop {hp : Nat} {m : Int} (h : rkCm B G0 G R0 S rq ch pg md k av tv) (hE : rkTe G G' B S T rq ch hp (gL G ch) (6 * R0 28 0 + k) m) (hn : gK G hp = 0) (hm : 0 ≤ m ∧ m < S 7 0) (hk : 0 ≤ k) (h28 : 0 ≤ R0 28 0 ∧ S 28 0 = R0 28 0) (h7 : S 7 0 = R0 7 0 ∧ T 7 0 = R0 7 0) (hO : rkOw S T (6 * R0 28 0 + k)) : rkCm B G0 G' R0 T rq ch pg md (k + 1) (fun j => if j = k then m else av j) (fun j => if j = k then S 67 0 else tv j) ∧ (∀ j, 0 ≤ j → j < k → rkAt G' ch j = rkAt G ch j ∧ gI G' 709 (rkAt G' ch j) = gI G 709 (rkAt G ch j) ∧ gI G' 710 (rkAt G' ch j) = gI G 710 (rkAt G ch j) ∧ gI G' 711 (rkAt G' ch j) = gI G 711 (rkAt G ch j)) ∧ rkAt G' ch k = hp := by
  obtain ⟨z, kp, ⟨n1, n2, n3, n4, n5⟩, ⟨r0, r1, r2⟩, ⟨c1, c2, c3⟩, ⟨l1, l2⟩, o⟩ := h
  obtain ⟨z', ⟨hf, hol⟩, hhp, ⟨d1, d2, d3⟩, e1, e2⟩ := hE
  obtain ⟨⟨k1, k2, k3, k4⟩, m2, m3, m1, m4⟩ := rkB_l3 z.1.1
  have krq : gK G rq ≠ 0 := by rw [r0]; decide
  have ls2 : gL G' (B 2) = gL G (B 2) := hf.2.2.1 (B 2) k2 (fun w => by simp at w; have := c3 2 (by decide); omega)
  have ls3 : gL G' (B 3) = gL G (B 3) := hf.2.2.1 (B 3) k3 (fun w => by simp at w; have := c3 3 (by decide); omega)
  have ls4 : gL G' (B 4) = gL G (B 4) := hf.2.2.1 (B 4) k4 (fun w => by simp at w; have := c3 4 (by decide); omega)
  have A : ∀ j, 0 ≤ j → j < k → rkAt G' ch j = rkAt G ch j := fun j j0 j1 => rkAt_app l1 d1 j0 j1
  have An : rkAt G' ch k = hp := rkAt_new l1 d1
  have K : ∀ j, 0 ≤ j → j < k → gK G (rkAt G ch j) ≠ 0 := fun j j0 j1 => by
    obtain ⟨⟨_, _, _, _, _, _, hv, -⟩, -⟩ := l2 j j0 j1
    rw [hv.1]; decide
  have N : ∀ f : Nat, f ∉ rkTk → ∀ y, gK G y ≠ 0 → gI G' f y = gI G f y ∧ gP G' f y = gP G f y := fun f hfk y hy => hf.2.1 f y hy hfk
  have Kq : rkKq G G' := rkKq_hop hf hol
  obtain ⟨o1, o2, o3⟩ := hO
  refine ⟨⟨z', rkKp_hop kp hf hol n2, ⟨n1, n2, by rw [ls4]; exact n3, ls2.trans n4, ls3.trans n5⟩, ⟨(hf.1 rq krq).trans r0, by rw [(N 1300 (by decide) rq krq).2, r1, rkAt_same ls3], ((N 1301 (by decide) rq krq).1).trans r2⟩, ⟨d2, d3, c3⟩, ⟨by rw [d1, List.length_append, List.length_singleton]; omega, fun j j0 j1 => ?_⟩, rkOw_tr o ⟨o1, o2, o3⟩ (by omega) h28.2⟩, fun j j0 j1 => ?_, An⟩
  · by_cases c : j = k
    · subst c
      dsimp only
      rw [An, if_pos rfl, if_pos rfl]
      exact ⟨hhp, ⟨hm.1, by omega⟩, e1, e2⟩
    · have j2 : j < k := by omega
      obtain ⟨w1, w2, w3, w4⟩ := l2 j j0 j2
      have hx := K j j0 j2
      dsimp only
      rw [A j j0 j2, if_neg c, if_neg c]
      have w1' := w1
      obtain ⟨_, _, _, _, _, _, -, -, -, k32, -⟩ := w1'
      obtain ⟨y1, y2, y3⟩ := o3 (6 * R0 28 0 + j).toNat (by omega)
      refine ⟨rkHp_k w1 Kq (fun i _ _ => rkAt_same ls2 i) (by omega) ⟨y1, y2, fun i i0 i1 => ?_⟩, w2, ?_, (Kq.2.1.1 702 _ hx (by omega)).trans w4⟩
      · have := y3 i.toNat (by omega)
        rw [show (12 * (6 * R0 28 0 + j) + i).toNat = 12 * (6 * R0 28 0 + j).toNat + i.toNat by omega]
        exact this
      · rw [Kq.2.1.2 700 _ hx (by omega), w3, rkAt_same ls2]
  · have hx := K j j0 j1
    rw [A j j0 j1]
    exact ⟨rfl, Kq.2.1.1 709 _ hx (by omega), Kq.2.1.1 710 _ hx (by omega), Kq.2.1.1 711 _ hx (by omega)⟩
end RUN
