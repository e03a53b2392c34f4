/-! the pool: a connection is used -/
section POOL2
variable {G G' : GT} {B : Nat → Nat} {R S T : RT} {xs : List Nat} {σ τ : Int → Int} {n : Int}
theorem rkCn_inj (hP : rkPl R) {i k : Int} {x : Nat} (hi : 0 ≤ i ∧ i < R 44 0) (hk : 0 ≤ k ∧ k < R 44 0) (h1 : rkCn G R i x) (h2 : rkCn G R k x) : i = k := by
  obtain ⟨-, a1, a2, a3, -⟩ := h1
  obtain ⟨-, b1, b2, b3, -⟩ := h2
  obtain ⟨s1, s2, s3, s4, s5, -⟩ := hP.2.1 i.toNat (by omega)
  obtain ⟨t1, t2, t3, t4, t5, -⟩ := hP.2.1 k.toNat (by omega)
  have e5 := (rkPm_inj s5 t5).mp (a3.symm.trans b3)
  have := hP.2.2 i.toNat k.toNat (by omega) (by omega) (by omega) (by omega) (by omega) (by omega) e5
  omega
theorem rkQl_G (h : rkQl G R xs σ τ n) (hG : ∀ x, gK G x = 4 → gK G' x = 4 ∧ gI G' 400 x = gI G 400 x ∧ gI G' 401 x = gI G 401 x ∧ gI G' 402 x = gI G 402 x ∧ gI G' 403 x = gI G 403 x) : rkQl G' R xs σ τ n := by
  refine ⟨h.1, fun p a b => ?_, h.2.2⟩
  obtain ⟨h1, c1, c2, c3, c4, c5⟩ := h.2.1 p a b
  obtain ⟨d1, d2, d3, d4, d5⟩ := hG _ c1
  exact ⟨h1, d1, d2.trans c2, d3.trans c3, d4.trans c4, d5.trans c5⟩
def rkQn (G8 : GT) (B : Nat → Nat) (x8 : Nat) (nw : Int) (S : RT) : Prop := ∀ G9 : GT, (∀ y, gK G9 y = gK G8 y) → (∀ y, gI G9 400 y = gI G8 400 y ∧ gI G9 401 y = gI G8 401 y ∧ gI G9 402 y = gI G8 402 y) → gI G9 403 x8 = nw → (∀ y, y ≠ x8 → gI G9 403 y = gI G8 403 y) → gI G9 1101 (B 7) = gI G8 1101 (B 7) → gL G9 (B 9) = (if 6 ≤ ((gL G8 (B 9)).length : Int) then (gL G8 (B 9)).eraseIdx 0 else gL G8 (B 9)) ++ [x8] → rkQ G9 B S
theorem rTouch_at {i : Int} (f j : Nat) : rTouch R i f j = if f = 1 ∧ j = 0 then R 1 0 + 1 else if f = 52 ∧ j = i.toNat then R 1 0 else if f = 51 ∧ j = i.toNat then R 0 0 else R f j := by
  unfold rTouch u2
  rfl
/-- the one that is found is used -/
theorem rkQn_use {a cr w p0 : Int} (h : rkQl G R (gL G (B 9)) σ τ (R 44 0)) (hP : rkPl R) (h45 : gI G 1101 (B 7) = R 45 0) (hp : 0 ≤ p0 ∧ p0 < R 44 0) (hl : rLineIs R a cr w (σ p0).toNat = true) (h20 : ¬ 20 < R 0 0 - R 51 (σ p0).toNat) (h0 : 0 ≤ R 0 0) : rkQn (sL G (B 9) ((gL G (B 9)).eraseIdx p0.toNat)) B ((gL G (B 9)).getD p0.toNat 0) (R 0 0) (rConR R a cr w) := by
  intro G9 g1 g2 g3 g4 g5 g6
  have hk := (h.2.1 p0 hp.1 hp.2).1.1
  have hcf := rConF_one hP (i := (σ p0).toNat) (by omega) hl
  have e2 : (((σ p0).toNat : Nat) : Int) = σ p0 := by omega
  rw [e2] at hcf
  have hcv : rCV R a cr w = σ p0 := by
    unfold rCV
    rw [hcf, if_neg (fun z => h20 z.2)]
  have hc1 : rCR1 R a cr w = R := by
    unfold rCR1
    rw [hcf, if_neg (fun z => h20 z.2), if_neg (fun z => by omega)]
  have hS : rConR R a cr w = rTouch R (σ p0) := by
    unfold rConR
    rw [hcv, hc1, if_neg (by omega)]
  rw [hS]
  have A : ∀ f j : Nat, rTouch R (σ p0) f j = if f = 1 ∧ j = 0 then R 1 0 + 1 else if f = 52 ∧ j = (σ p0).toNat then R 1 0 else if f = 51 ∧ j = (σ p0).toNat then R 0 0 else R f j := rTouch_at
  have O : ∀ f j : Nat, f ≠ 1 → f ≠ 51 → f ≠ 52 → rTouch R (σ p0) f j = R f j := fun f j f1 f2 f3 => by rw [A, if_neg (fun z => f1 z.1), if_neg (fun z => f3 z.1), if_neg (fun z => f2 z.1)]
  have hle := h.1
  have e6 : gL (sL G (B 9) ((gL G (B 9)).eraseIdx p0.toNat)) (B 9) = (gL G (B 9)).eraseIdx p0.toNat := sL_s
  rw [e6] at g6
  have hlen : (((gL G (B 9)).eraseIdx p0.toNat).length : Int) = R 44 0 - 1 := by
    rw [List.length_eraseIdx, if_pos (by omega)]
    omega
  rw [if_neg (by have := hP.1; omega)] at g6
  refine ⟨?_, ⟨by rw [O 44 0 (by decide) (by decide) (by decide)]; exact hP.1, fun k hk2 => ?_, fun i j hi hj q1 q2 q3 q4 q5 => ?_⟩, ?_⟩
  · rw [g6, O 44 0 (by decide) (by decide) (by decide)]
    refine rkQl_use h hp ?_ (fun k y k0 k1 kn hy => ?_) (fun k k0 k1 kn => ?_) (fun k k0 k1 => ?_)
    · obtain ⟨c1, c2, c3, c4, c5⟩ := (h.2.1 p0 hp.1 hp.2).2
      refine ⟨(g1 _).trans c1, ?_, ?_, ?_, ?_⟩
      · rw [O 46 _ (by decide) (by decide) (by decide), O 47 _ (by decide) (by decide) (by decide), O 48 _ (by decide) (by decide) (by decide)]
        exact (g2 _).1.trans c2
      · rw [O 49 _ (by decide) (by decide) (by decide)]
        exact (g2 _).2.1.trans c3
      · rw [O 50 _ (by decide) (by decide) (by decide)]
        exact (g2 _).2.2.trans c4
      · rw [g3, A, if_neg (by omega), if_neg (by omega), if_pos ⟨rfl, rfl⟩]
    · have hyn : y ≠ (gL G (B 9)).getD p0.toNat 0 := fun z => kn (rkCn_inj hP ⟨k0, k1⟩ hk (z ▸ hy) (h.2.1 p0 hp.1 hp.2).2)
      obtain ⟨c1, c2, c3, c4, c5⟩ := hy
      refine ⟨(g1 _).trans c1, ?_, ?_, ?_, ?_⟩
      · rw [O 46 _ (by decide) (by decide) (by decide), O 47 _ (by decide) (by decide) (by decide), O 48 _ (by decide) (by decide) (by decide)]
        exact (g2 _).1.trans c2
      · rw [O 49 _ (by decide) (by decide) (by decide)]
        exact (g2 _).2.1.trans c3
      · rw [O 50 _ (by decide) (by decide) (by decide)]
        exact (g2 _).2.2.trans c4
      · rw [A, if_neg (by omega), if_neg (by omega), if_neg (by omega)]
        exact (g4 y hyn).trans c5
    · rw [A, if_neg (by omega), if_neg (by omega), if_neg (by omega)]
    · rw [A, if_neg (by omega), if_pos ⟨rfl, rfl⟩]
      exact (hP.2.1 k.toNat (by omega)).2.2.2.2.2.2
  · rw [O 44 0 (by decide) (by decide) (by decide)] at hk2
    obtain ⟨s1, s2, s3, s4, s5, s6, s7⟩ := hP.2.1 k hk2
    unfold rkSl
    have E51 : rTouch R (σ p0) 51 k = if k = (σ p0).toNat then R 0 0 else R 51 k := by
      rw [A, if_neg (by omega), if_neg (by omega)]
      by_cases c : k = (σ p0).toNat
      · rw [if_pos ⟨rfl, c⟩, if_pos c]
      · rw [if_neg (fun z => c z.2), if_neg c]
    have E52 : rTouch R (σ p0) 52 k = if k = (σ p0).toNat then R 1 0 else R 52 k := by
      rw [A, if_neg (by omega)]
      by_cases c : k = (σ p0).toNat
      · rw [if_pos ⟨rfl, c⟩, if_pos c]
      · rw [if_neg (fun z => c z.2), if_neg (by omega), if_neg c]
    have E1 : rTouch R (σ p0) 1 0 = R 1 0 + 1 := by rw [A, if_pos ⟨rfl, rfl⟩]
    rw [O 46 _ (by decide) (by decide) (by decide), O 47 _ (by decide) (by decide) (by decide), O 48 _ (by decide) (by decide) (by decide), O 49 _ (by decide) (by decide) (by decide), O 50 _ (by decide) (by decide) (by decide), O 0 0 (by decide) (by decide) (by decide), E51, E52, E1]
    refine ⟨s1, s2, s3, s4, s5, ?_, ?_⟩
    · split
      · exact ⟨h0, Int.le_refl _⟩
      · exact s6
    · split <;> omega
  · rw [O 44 0 (by decide) (by decide) (by decide)] at hi hj
    rw [O 46 _ (by decide) (by decide) (by decide), O 46 _ (by decide) (by decide) (by decide)] at q1
    rw [O 47 _ (by decide) (by decide) (by decide), O 47 _ (by decide) (by decide) (by decide)] at q2
    rw [O 48 _ (by decide) (by decide) (by decide), O 48 _ (by decide) (by decide) (by decide)] at q3
    rw [O 49 _ (by decide) (by decide) (by decide), O 49 _ (by decide) (by decide) (by decide)] at q4
    rw [O 50 _ (by decide) (by decide) (by decide), O 50 _ (by decide) (by decide) (by decide)] at q5
    exact hP.2.2 i j hi hj q1 q2 q3 q4 q5
  · rw [O 45 0 (by decide) (by decide) (by decide)]
    exact g5.trans h45
/-- a new one is added to what is left -/
theorem rkQ_add {a cr w : Int} (hP : rkPl T) (hq : ∃ σ τ, rkQl G T xs σ τ (T 44 0)) (h5 : T 44 0 ≤ 5) (hno : ∀ k : Nat, (k : Int) < T 44 0 → ¬ rLineIs T a cr w k = true) (hr : (0 ≤ T 8 a.toNat ∧ T 8 a.toNat ≤ 1) ∧ (0 ≤ T 9 a.toNat ∧ T 9 a.toNat ≤ 15) ∧ (1 ≤ rGate T a ∧ rGate T a ≤ 9999) ∧ (cr = 0 ∨ cr = 1) ∧ (-1 ≤ w ∧ w ≤ 31) ∧ 0 ≤ T 0 0) {x : Nat} (hx : gK G' x = 4 ∧ gI G' 400 x = (2 * T 9 a.toNat + T 8 a.toNat) * 10000 + rGate T a ∧ gI G' 401 x = cr ∧ gI G' 402 x = rkPm w ∧ gI G' 403 x = T 0 0) (ho : ∀ y k, 0 ≤ k → k < T 44 0 → rkCn G T k y → rkCn G' T k y) (h45 : gI G' 1101 (B 7) = T 45 0 + 1) (hl : gL G' (B 9) = xs ++ [x]) : rkQ G' B (rTouch (rAddLine T a cr w) (T 44 0)) := by
  have h0 := hP.1
  have A : ∀ f j : Nat, rTouch (rAddLine T a cr w) (T 44 0) f j = if f = 1 ∧ j = 0 then T 1 0 + 1 else if f = 52 ∧ j = (T 44 0).toNat then T 1 0 else if f = 51 ∧ j = (T 44 0).toNat then T 0 0 else rAddLine T a cr w f j := fun f j => by
    rw [rTouch_at, rAddLine_out (f := 1) (by omega), rAddLine_out (f := 0) (by omega)]
  have D : ∀ f j : Nat, rAddLine T a cr w f j = if f = 45 ∧ j = 0 then T 45 0 + 1 else if f = 44 ∧ j = 0 then T 44 0 + 1 else if f = 50 ∧ j = (T 44 0).toNat then w else if f = 49 ∧ j = (T 44 0).toNat then cr else if f = 48 ∧ j = (T 44 0).toNat then rGate T a else if f = 47 ∧ j = (T 44 0).toNat then T 9 a.toNat else if f = 46 ∧ j = (T 44 0).toNat then T 8 a.toNat else T f j := fun f j => by
    unfold rAddLine u2
    rfl
  have O : ∀ f j : Nat, 46 ≤ f → f ≤ 52 → j ≠ (T 44 0).toNat → rTouch (rAddLine T a cr w) (T 44 0) f j = T f j := fun f j f1 f2 jn => by
    rw [A, D]
    repeat rw [if_neg (by omega)]
  have N46 : rTouch (rAddLine T a cr w) (T 44 0) 46 (T 44 0).toNat = T 8 a.toNat := by rw [A, D]; (repeat rw [if_neg (by omega)]); exact if_pos ⟨rfl, rfl⟩
  have N47 : rTouch (rAddLine T a cr w) (T 44 0) 47 (T 44 0).toNat = T 9 a.toNat := by rw [A, D]; (repeat rw [if_neg (by omega)]); exact if_pos ⟨rfl, rfl⟩
  have N48 : rTouch (rAddLine T a cr w) (T 44 0) 48 (T 44 0).toNat = rGate T a := by rw [A, D]; (repeat rw [if_neg (by omega)]); exact if_pos ⟨rfl, rfl⟩
  have N49 : rTouch (rAddLine T a cr w) (T 44 0) 49 (T 44 0).toNat = cr := by rw [A, D]; (repeat rw [if_neg (by omega)]); exact if_pos ⟨rfl, rfl⟩
  have N50 : rTouch (rAddLine T a cr w) (T 44 0) 50 (T 44 0).toNat = w := by rw [A, D]; (repeat rw [if_neg (by omega)]); exact if_pos ⟨rfl, rfl⟩
  have N51 : rTouch (rAddLine T a cr w) (T 44 0) 51 (T 44 0).toNat = T 0 0 := by rw [A, if_neg (by omega), if_neg (by omega), if_pos ⟨rfl, rfl⟩]
  have N52 : rTouch (rAddLine T a cr w) (T 44 0) 52 (T 44 0).toNat = T 1 0 := by rw [A, if_neg (by omega), if_pos ⟨rfl, rfl⟩]
  have N44 : rTouch (rAddLine T a cr w) (T 44 0) 44 0 = T 44 0 + 1 := by rw [A, D]; (repeat rw [if_neg (by omega)]); exact if_pos ⟨rfl, rfl⟩
  have N45 : rTouch (rAddLine T a cr w) (T 44 0) 45 0 = T 45 0 + 1 := by rw [A, D]; (repeat rw [if_neg (by omega)]); exact if_pos ⟨rfl, rfl⟩
  have N1 : rTouch (rAddLine T a cr w) (T 44 0) 1 0 = T 1 0 + 1 := by rw [A, if_pos ⟨rfl, rfl⟩]
  have N0 : rTouch (rAddLine T a cr w) (T 44 0) 0 0 = T 0 0 := by rw [A, D]; (repeat rw [if_neg (by omega)])
  generalize hSS : rTouch (rAddLine T a cr w) (T 44 0) = S at *
  obtain ⟨σ, τ, hq⟩ := hq
  obtain ⟨x1, x2, x3, x4, x5⟩ := hx
  refine ⟨?_, ⟨by rw [N44]; omega, fun k hk => ?_, fun i j hi hj q1 q2 q3 q4 q5 => ?_⟩, h45.trans N45.symm⟩
  · rw [hl, N44]
    refine rkQl_add hq h0.1 ⟨x1, by rw [N46, N47, N48]; exact x2, x3.trans N49.symm, by rw [N50]; exact x4, x5.trans N51.symm⟩ (fun k y k0 k1 hy => ?_) (fun k k0 k1 => O 52 _ (by decide) (by decide) (by omega)) (fun k k0 k1 => ?_)
    · obtain ⟨c1, c2, c3, c4, c5⟩ := ho y k k0 k1 hy
      have jn : k.toNat ≠ (T 44 0).toNat := by omega
      refine ⟨c1, ?_, ?_, ?_, ?_⟩
      · rw [O 46 _ (by decide) (by decide) jn, O 47 _ (by decide) (by decide) jn, O 48 _ (by decide) (by decide) jn]
        exact c2
      · rw [O 49 _ (by decide) (by decide) jn]
        exact c3
      · rw [O 50 _ (by decide) (by decide) jn]
        exact c4
      · rw [O 51 _ (by decide) (by decide) jn]
        exact c5
    · rw [N52]
      exact (hP.2.1 k.toNat (by omega)).2.2.2.2.2.2
  · rw [N44] at hk
    unfold rkSl
    by_cases c : k = (T 44 0).toNat
    · rw [c, N46, N47, N48, N49, N50, N51, N52, N0, N1]
      exact ⟨hr.1, hr.2.1, hr.2.2.1, hr.2.2.2.1, hr.2.2.2.2.1, ⟨hr.2.2.2.2.2, Int.le_refl _⟩, by omega⟩
    · obtain ⟨s1, s2, s3, s4, s5, s6, s7⟩ := hP.2.1 k (by omega)
      rw [O 46 _ (by decide) (by decide) c, O 47 _ (by decide) (by decide) c, O 48 _ (by decide) (by decide) c, O 49 _ (by decide) (by decide) c, O 50 _ (by decide) (by decide) c, O 51 _ (by decide) (by decide) c, O 52 _ (by decide) (by decide) c, N0, N1]
      exact ⟨s1, s2, s3, s4, s5, s6, by omega⟩
  · rw [N44] at hi hj
    by_cases ci : i = (T 44 0).toNat
    · by_cases cj : j = (T 44 0).toNat
      · omega
      · rw [ci, N46, O 46 _ (by decide) (by decide) cj] at q1
        rw [ci, N47, O 47 _ (by decide) (by decide) cj] at q2
        rw [ci, N48, O 48 _ (by decide) (by decide) cj] at q3
        rw [ci, N49, O 49 _ (by decide) (by decide) cj] at q4
        rw [ci, N50, O 50 _ (by decide) (by decide) cj] at q5
        exact absurd (rkLineIs.mpr ⟨q1.symm, q2.symm, q3.symm, q4.symm, q5.symm⟩) (hno j (by omega))
    · by_cases cj : j = (T 44 0).toNat
      · rw [cj, N46, O 46 _ (by decide) (by decide) ci] at q1
        rw [cj, N47, O 47 _ (by decide) (by decide) ci] at q2
        rw [cj, N48, O 48 _ (by decide) (by decide) ci] at q3
        rw [cj, N49, O 49 _ (by decide) (by decide) ci] at q4
        rw [cj, N50, O 50 _ (by decide) (by decide) ci] at q5
        exact absurd (rkLineIs.mpr ⟨q1, q2, q3, q4, q5⟩) (hno i (by omega))
      · rw [O 46 _ (by decide) (by decide) ci, O 46 _ (by decide) (by decide) cj] at q1
        rw [O 47 _ (by decide) (by decide) ci, O 47 _ (by decide) (by decide) cj] at q2
        rw [O 48 _ (by decide) (by decide) ci, O 48 _ (by decide) (by decide) cj] at q3
        rw [O 49 _ (by decide) (by decide) ci, O 49 _ (by decide) (by decide) cj] at q4
        rw [O 50 _ (by decide) (by decide) ci, O 50 _ (by decide) (by decide) cj] at q5
        exact hP.2.2 i j (by omega) (by omega) q1 q2 q3 q4 q5
/-- none is found: a new one, the oldest goes where there are six -/
theorem rkQn_new {a cr w : Int} {G8 : GT} (h : rkQl G R (gL G (B 9)) σ τ (R 44 0)) (hP : rkPl R) (hcf : rCF R a cr w = -1) (hno : ∀ k : Nat, (k : Int) < R 44 0 → ¬ rLineIs R a cr w k = true) (hr : (0 ≤ R 8 a.toNat ∧ R 8 a.toNat ≤ 1) ∧ (0 ≤ R 9 a.toNat ∧ R 9 a.toNat ≤ 15) ∧ (1 ≤ rGate R a ∧ rGate R a ≤ 9999) ∧ (cr = 0 ∨ cr = 1) ∧ (-1 ≤ w ∧ w ≤ 31) ∧ 0 ≤ R 0 0) {x : Nat} (hx : gK G8 x = 4 ∧ gI G8 400 x = (2 * R 9 a.toNat + R 8 a.toNat) * 10000 + rGate R a ∧ gI G8 401 x = cr ∧ gI G8 402 x = rkPm w) (hxn : gK G x ≠ 4) (ho : ∀ y, gK G y = 4 → gK G8 y = 4 ∧ gI G8 400 y = gI G 400 y ∧ gI G8 401 y = gI G 401 y ∧ gI G8 402 y = gI G 402 y ∧ gI G8 403 y = gI G 403 y) (h45 : gI G8 1101 (B 7) = R 45 0 + 1) (hl : gL G8 (B 9) = gL G (B 9)) : rkQn G8 B x (R 0 0) (rConR R a cr w) := by
  intro G9 g1 g2 g3 g4 g5 g6
  obtain ⟨x1, x2, x3, x4⟩ := hx
  have hcv : rCV R a cr w = -1 := by
    unfold rCV
    rw [hcf, if_neg (fun z => z.1 rfl)]
  have hle := h.1
  have h0 := hP.1
  have hg9 : ∀ y, gK G y = 4 → gK G9 y = 4 ∧ gI G9 400 y = gI G 400 y ∧ gI G9 401 y = gI G 401 y ∧ gI G9 402 y = gI G 402 y ∧ gI G9 403 y = gI G 403 y := fun y hy => by
    obtain ⟨o1, o2, o3, o4, o5⟩ := ho y hy
    have hyn : y ≠ x := fun z => hxn (z ▸ hy)
    exact ⟨(g1 y).trans o1, (g2 y).1.trans o2, (g2 y).2.1.trans o3, (g2 y).2.2.trans o4, (g4 y hyn).trans o5⟩
  have hxx : gK G9 x = 4 ∧ gI G9 400 x = (2 * R 9 a.toNat + R 8 a.toNat) * 10000 + rGate R a ∧ gI G9 401 x = cr ∧ gI G9 402 x = rkPm w ∧ gI G9 403 x = R 0 0 := ⟨(g1 x).trans x1, (g2 x).1.trans x2, (g2 x).2.1.trans x3, (g2 x).2.2.trans x4, g3⟩
  rw [hl] at g6
  by_cases c6 : R 44 0 = 6
  · have hold : rCO R = σ 0 := by
      have hs0 := (h.2.1 0 (by omega) (by omega)).1.1
      have := rOldF_min (R := R) (n := R 44 0) (k := (σ 0).toNat) (fun j hj jn => by
        obtain ⟨t1, t2⟩ := h.2.2.1 j (by omega) hj
        have hne : τ j ≠ 0 := fun z => jn (by rw [z] at t2; omega)
        have := h.2.2.2 0 (τ j) (by omega) (by omega) t1.2
        rw [t2, Int.toNat_natCast] at this
        exact this) (by omega)
      unfold rCO
      rw [this]
      omega
    have hs0 := (h.2.1 0 (by omega) (by omega)).1.1
    have hc1 : rCR1 R a cr w = rCloses R (σ 0) := by
      unfold rCR1
      rw [if_neg (fun z => z.1 hcf), if_pos ⟨hcf, c6⟩, hold]
    obtain ⟨hT, hrow⟩ := rkPl_close hP (i := σ 0) hs0
    have e44 : rCloses R (σ 0) 44 0 = R 44 0 - 1 := rCloses_44
    have hS : rConR R a cr w = rTouch (rAddLine (rCloses R (σ 0)) a cr w) (rCloses R (σ 0) 44 0) := by
      unfold rConR
      rw [hcv, if_pos rfl, hc1]
    rw [if_pos (by omega)] at g6
    have E : ∀ f j : Nat, f < 44 ∨ f = 45 → rCloses R (σ 0) f j = R f j := fun f j hf => rCloses_out (by omega) j
    have eg : rGate (rCloses R (σ 0)) a = rGate R a := by
      unfold rGate
      rw [E 8 _ (by omega), E 10 _ (by omega)]
    obtain ⟨σ', τ', hq⟩ := rkQl_close h (S := rCloses R (σ 0)) (p0 := 0) ⟨by omega, by omega⟩ hrow
    rw [hS]
    refine rkQ_add hT ⟨σ', τ', by rw [e44]; exact hq⟩ (by omega) (fun k hk z => ?_) (by rw [E 8 _ (by omega), E 9 _ (by omega), E 0 _ (by omega), eg]; exact hr) (x := x) (by rw [E 8 _ (by omega), E 9 _ (by omega), E 0 _ (by omega), eg]; exact hxx) (fun y k k0 k1 hy => ?_) (by rw [E 45 _ (by omega)]; exact g5.trans h45) g6
    · rw [e44] at hk
      have z2 := rkLineIs.mp z
      have E2 : ∀ f : Nat, 46 ≤ f → f ≤ 52 → rCloses R (σ 0) f k = R f (if σ 0 ≤ (k : Int) then (k : Int) + 1 else k).toNat := fun f f1 f2 => by
        have := hrow f f1 f2 k (by omega) hk
        rwa [Int.toNat_natCast] at this
      rw [E2 46 (by decide) (by decide), E2 47 (by decide) (by decide), E2 48 (by decide) (by decide), E2 49 (by decide) (by decide), E2 50 (by decide) (by decide), E 8 _ (by omega), E 9 _ (by omega), eg] at z2
      exact hno _ (by split <;> omega) (rkLineIs.mpr z2)
    · obtain ⟨d1, d2, d3, d4, d5⟩ := hy
      obtain ⟨o1, o2, o3, o4, o5⟩ := hg9 y d1
      exact ⟨o1, o2.trans d2, o3.trans d3, o4.trans d4, o5.trans d5⟩
  · have hc1 : rCR1 R a cr w = R := by
      unfold rCR1
      rw [if_neg (fun z => z.1 hcf), if_neg (fun z => c6 z.2)]
    have hS : rConR R a cr w = rTouch (rAddLine R a cr w) (R 44 0) := by
      unfold rConR
      rw [hcv, if_pos rfl, hc1]
    rw [if_neg (by omega)] at g6
    rw [hS]
    refine rkQ_add hP ⟨σ, τ, h⟩ (by omega) hno hr (x := x) hxx (fun y k k0 k1 hy => ?_) (g5.trans h45) g6
    obtain ⟨d1, d2, d3, d4, d5⟩ := hy
    obtain ⟨o1, o2, o3, o4, o5⟩ := hg9 y d1
    exact ⟨o1, o2.trans d2, o3.trans d3, o4.trans d4, o5.trans d5⟩
/-- the one that is found has been idle too long -/
theorem rkQn_old {a cr w p0 : Int} {G8 : GT} (h : rkQl G R (gL G (B 9)) σ τ (R 44 0)) (hP : rkPl R) (hp : 0 ≤ p0 ∧ p0 < R 44 0) (hli : rLineIs R a cr w (σ p0).toNat = true) (h20 : 20 < R 0 0 - R 51 (σ p0).toNat) (hr : (0 ≤ R 8 a.toNat ∧ R 8 a.toNat ≤ 1) ∧ (0 ≤ R 9 a.toNat ∧ R 9 a.toNat ≤ 15) ∧ (1 ≤ rGate R a ∧ rGate R a ≤ 9999) ∧ (cr = 0 ∨ cr = 1) ∧ (-1 ≤ w ∧ w ≤ 31) ∧ 0 ≤ R 0 0) {x : Nat} (hx : gK G8 x = 4 ∧ gI G8 400 x = (2 * R 9 a.toNat + R 8 a.toNat) * 10000 + rGate R a ∧ gI G8 401 x = cr ∧ gI G8 402 x = rkPm w) (hxn : gK G x ≠ 4) (ho : ∀ y, gK G y = 4 → gK G8 y = 4 ∧ gI G8 400 y = gI G 400 y ∧ gI G8 401 y = gI G 401 y ∧ gI G8 402 y = gI G 402 y ∧ gI G8 403 y = gI G 403 y) (h45 : gI G8 1101 (B 7) = R 45 0 + 1) (hl : gL G8 (B 9) = (gL G (B 9)).eraseIdx p0.toNat) : rkQn G8 B x (R 0 0) (rConR R a cr w) := by
  intro G9 g1 g2 g3 g4 g5 g6
  obtain ⟨x1, x2, x3, x4⟩ := hx
  have hs0 := (h.2.1 p0 hp.1 hp.2).1.1
  have hcf := rConF_one hP (i := (σ p0).toNat) (by omega) hli
  have e2 : (((σ p0).toNat : Nat) : Int) = σ p0 := by omega
  rw [e2] at hcf
  have hcv : rCV R a cr w = -1 := by
    unfold rCV
    rw [hcf, if_pos ⟨by omega, h20⟩]
  have hle := h.1
  have h0 := hP.1
  have hg9 : ∀ y, gK G y = 4 → gK G9 y = 4 ∧ gI G9 400 y = gI G 400 y ∧ gI G9 401 y = gI G 401 y ∧ gI G9 402 y = gI G 402 y ∧ gI G9 403 y = gI G 403 y := fun y hy => by
    obtain ⟨o1, o2, o3, o4, o5⟩ := ho y hy
    have hyn : y ≠ x := fun z => hxn (z ▸ hy)
    exact ⟨(g1 y).trans o1, (g2 y).1.trans o2, (g2 y).2.1.trans o3, (g2 y).2.2.trans o4, (g4 y hyn).trans o5⟩
  have hxx : gK G9 x = 4 ∧ gI G9 400 x = (2 * R 9 a.toNat + R 8 a.toNat) * 10000 + rGate R a ∧ gI G9 401 x = cr ∧ gI G9 402 x = rkPm w ∧ gI G9 403 x = R 0 0 := ⟨(g1 x).trans x1, (g2 x).1.trans x2, (g2 x).2.1.trans x3, (g2 x).2.2.trans x4, g3⟩
  have hlen : (((gL G (B 9)).eraseIdx p0.toNat).length : Int) = R 44 0 - 1 := by
    rw [List.length_eraseIdx, if_pos (by omega)]
    omega
  rw [hl, if_neg (by omega)] at g6
  have hc1 : rCR1 R a cr w = rCloses R (σ p0) := by
    unfold rCR1
    rw [hcf, if_pos ⟨by omega, h20⟩]
  obtain ⟨hT, hrow⟩ := rkPl_close hP (i := σ p0) hs0
  have e44 : rCloses R (σ p0) 44 0 = R 44 0 - 1 := rCloses_44
  have hS : rConR R a cr w = rTouch (rAddLine (rCloses R (σ p0)) a cr w) (rCloses R (σ p0) 44 0) := by
    unfold rConR
    rw [hcv, if_pos rfl, hc1]
  have E : ∀ f j : Nat, f < 44 ∨ f = 45 → rCloses R (σ p0) f j = R f j := fun f j hf => rCloses_out (by omega) j
  have eg : rGate (rCloses R (σ p0)) a = rGate R a := by
    unfold rGate
    rw [E 8 _ (by omega), E 10 _ (by omega)]
  obtain ⟨σ', τ', hq⟩ := rkQl_close h (S := rCloses R (σ p0)) (p0 := p0) hp hrow
  rw [hS]
  refine rkQ_add hT ⟨σ', τ', by rw [e44]; exact hq⟩ (by omega) (fun k hk z => ?_) (by rw [E 8 _ (by omega), E 9 _ (by omega), E 0 _ (by omega), eg]; exact hr) (x := x) (by rw [E 8 _ (by omega), E 9 _ (by omega), E 0 _ (by omega), eg]; exact hxx) (fun y k k0 k1 hy => ?_) (by rw [E 45 _ (by omega)]; exact g5.trans h45) g6
  · rw [e44] at hk
    have z2 := rkLineIs.mp z
    have z1 := rkLineIs.mp hli
    have E2 : ∀ f : Nat, 46 ≤ f → f ≤ 52 → rCloses R (σ p0) f k = R f (if σ p0 ≤ (k : Int) then (k : Int) + 1 else k).toNat := fun f f1 f2 => by
      have := hrow f f1 f2 k (by omega) hk
      rwa [Int.toNat_natCast] at this
    rw [E2 46 (by decide) (by decide), E2 47 (by decide) (by decide), E2 48 (by decide) (by decide), E2 49 (by decide) (by decide), E2 50 (by decide) (by decide), E 8 _ (by omega), E 9 _ (by omega), eg] at z2
    have := hP.2.2 _ (σ p0).toNat (show (((if σ p0 ≤ (k : Int) then (k : Int) + 1 else k).toNat : Nat) : Int) < R 44 0 by split <;> omega) (by omega) (z2.1.trans z1.1.symm) (z2.2.1.trans z1.2.1.symm) (z2.2.2.1.trans z1.2.2.1.symm) (z2.2.2.2.1.trans z1.2.2.2.1.symm) (z2.2.2.2.2.trans z1.2.2.2.2.symm)
    split at this <;> omega
  · obtain ⟨d1, d2, d3, d4, d5⟩ := hy
    obtain ⟨o1, o2, o3, o4, o5⟩ := hg9 y d1
    exact ⟨o1, o2.trans d2, o3.trans d3, o4.trans d4, o5.trans d5⟩
end POOL2
