/-! faces: one address more -/
def rkNz (x : Int) : Prop := (x = 0 ∨ 0 < x % 10) ∧ (x / 10 = 0 ∨ 0 < x / 10 % 10) ∧ (x / 100 = 0 ∨ 0 < x / 100 % 10) ∧ (x / 1000 = 0 ∨ 0 < x / 1000 % 10) ∧ (x / 10000 = 0 ∨ 0 < x / 10000 % 10) ∧ (x / 100000 = 0 ∨ 0 < x / 100000 % 10)
theorem rkNz_div {x : Int} (h0 : 0 ≤ x ∧ x ≤ 999999) (h : rkNz x) : rkNz (x / 10) := by
  obtain ⟨a, b, c, d, e, f⟩ := h
  unfold rkNz
  rw [show x / 10 / 10 = x / 100 by omega, show x / 10 / 100 = x / 1000 by omega, show x / 10 / 1000 = x / 10000 by omega, show x / 10 / 10000 = x / 100000 by omega, show x / 10 / 100000 = 0 by omega]
  exact ⟨b, c, d, e, f, Or.inl rfl⟩
theorem rkNz_add {x d : Int} (h0 : 0 ≤ x ∧ x ≤ 99999) (hd : 1 ≤ d ∧ d ≤ 9) (h : rkNz x) : rkNz (10 * x + d) := by
  obtain ⟨a, b, c, e, f, g⟩ := h
  unfold rkNz
  rw [show (10 * x + d) / 10 = x by omega, show (10 * x + d) / 100 = x / 10 by omega, show (10 * x + d) / 1000 = x / 100 by omega, show (10 * x + d) / 10000 = x / 1000 by omega, show (10 * x + d) / 100000 = x / 10000 by omega]
  exact ⟨Or.inr (by omega), a, b, c, e, f⟩
theorem rkPb_path {w r : Int} (hw : rIsPath w = true) (hr : rIsRef r = true) (h : rkPb w r ≤ 999) : rIsPath (rkPb w r) = true := by
  have hpt := rIsPath_t.mp hw
  have hc := rPw_c hr
  have key : ∀ (m : Nat) (x : Int), m ≤ 4 → 0 ≤ x → ((m = 4 ∧ x ≤ 99) ∨ (m = 3 ∧ x ≤ 999) ∨ (m = 2 ∧ x ≤ 9999) ∨ (m = 1 ∧ x ≤ 99999) ∨ (m = 0 ∧ x ≤ 999999)) → rkNz x → (0 ≤ rkPbF m r x ∧ rkPbF m r x ≤ 999999) ∧ rkNz (rkPbF m r x) := by
    intro m
    induction m with
    | zero => intro x _ h0 h1 hz; exact ⟨⟨h0, by show x ≤ 999999; omega⟩, hz⟩
    | succ m ih =>
      intro x hm h0 h1 hz
      have hd : 0 ≤ r / rKk (m + 1) := Int.ediv_nonneg (by omega) (by have := rKk_in (m + 1); omega)
      obtain ⟨q, hq⟩ : ∃ q, q = r / rKk (m + 1) := ⟨_, rfl⟩
      show (0 ≤ rkPbF m r (if r / rKk (m + 1) % 10 = 0 then x / 10 else 10 * x + r / rKk (m + 1) % 10) ∧ rkPbF m r (if r / rKk (m + 1) % 10 = 0 then x / 10 else 10 * x + r / rKk (m + 1) % 10) ≤ 999999) ∧ rkNz (rkPbF m r (if r / rKk (m + 1) % 10 = 0 then x / 10 else 10 * x + r / rKk (m + 1) % 10))
      rw [← hq] at hd ⊢
      by_cases c : q % 10 = 0
      · rw [if_pos c]
        exact ih _ (by omega) (by omega) (by omega) (rkNz_div ⟨h0, by omega⟩ hz)
      · rw [if_neg c]
        exact ih (10 * x + q % 10) (by omega) (by omega) (by omega) (rkNz_add ⟨h0, by omega⟩ ⟨by omega, by omega⟩ hz)
  have hpm := rPm_in r
  have z0 : rkNz (if r < 2 * rPw r then w / 10 else 0) := by
    have zw : rkNz w := by unfold rkNz; omega
    split
    · exact rkNz_div ⟨by omega, by omega⟩ zw
    · unfold rkNz; omega
  have hx : 0 ≤ (if r < 2 * rPw r then w / 10 else 0) ∧ (if r < 2 * rPw r then w / 10 else 0) ≤ 99 := by split <;> omega
  obtain ⟨k1, k2⟩ := key (rPm r) (if r < 2 * rPw r then w / 10 else 0) hpm hx.1 (by omega) z0
  have k1' : 0 ≤ rkPb w r := k1.1
  have k2' : rkNz (rkPb w r) := k2
  obtain ⟨a, b, c, -⟩ := k2'
  refine rIsPath_t.mpr ?_
  omega
section FACES8
variable {G G' : GT} {B : Nat → Nat} {R S : RT}
theorem rFind_none {u v x y : Int} : ∀ n : Nat, rFind R u v x y n = -1 → ∀ j : Nat, j < n → ¬ (R 8 j = u ∧ R 9 j = v ∧ R 10 j = x ∧ R 11 j = y) := by
  intro n
  induction n with
  | zero => intro _ j hj; omega
  | succ n ih =>
    intro h j hj hx
    unfold rFind at h
    by_cases c : R 8 n = u ∧ R 9 n = v ∧ R 10 n = x ∧ R 11 n = y
    · rw [if_pos (by simpa using c)] at h
      omega
    · rw [if_neg (fun z => c (by simpa using z))] at h
      by_cases d : j = n
      · subst d; exact c hx
      · exact ih h j (by omega) hx
theorem rkZ_addr {s1 h p1 w : Int} {a q : Nat} (hZ : rkZ G B R) (hE : rkE0 R) (h24 : R 7 0 < 24) (h1 : 0 ≤ s1 ∧ s1 ≤ 1) (h2 : 0 ≤ h ∧ h < R 3 0) (h3 : 0 ≤ p1 ∧ p1 ≤ 9999) (h4 : rIsPath w = true) (hno : rFnd R s1 h p1 w = -1) (hfr : rkFr [] [B 2] G G') (l2 : gL G' (B 2) = gL G (B 2) ++ [a]) (hN : rkNf R G' B a q (R 7 0) s1 (rkAt G (B 1) h) h p1 w)
    (E : ∀ f : Nat, f < 61 → ¬ (7 ≤ f ∧ f ≤ 12) → f ≠ 14 → f ≠ 19 → S f = R f) (ej : ∀ f j : Nat, f < 61 → f ≠ 7 → j ≠ (R 7 0).toNat → S f j = R f j) (s7 : S 7 0 = R 7 0 + 1) (s8 : S 8 (R 7 0).toNat = s1) (s9 : S 9 (R 7 0).toNat = h) (s10 : S 10 (R 7 0).toNat = p1) (s11 : S 11 (R 7 0).toNat = w) (s12 : S 12 (R 7 0).toNat = -1) (s14 : S 14 (R 7 0).toNat = -1) (s19 : S 19 (R 7 0).toNat = -1) (hrr : ∀ k j, InR (S k j)) : rkZ G' B S := by
  obtain ⟨hW, hC, hJ, hQ, hF, t1, t2, t3⟩ := hZ
  obtain ⟨hB, ⟨b1, b2⟩, ⟨a1, a2⟩, ⟨p1', p2⟩, iH, iA, iAd, iHl, iP, iS, -, iU⟩ := id hW
  obtain ⟨⟨b0, b6, b7⟩, ⟨k1, k2, k3, k4, k5, k8, k9⟩, -, ⟨n12, n13, n14, n15, n18, n19, n23, n24, n25, n28, n29, n34, n35, n38, n39, n45, n48, n49, n58, n59, n89⟩⟩ := id hB
  have hw := rIsPath_in h4
  have h7 := iA.1
  have e1 : gL G' (B 1) = gL G (B 1) := hfr.2.2.1 (B 1) (by omega) (by simpa using n12)
  have e3 : gL G' (B 3) = gL G (B 3) := hfr.2.2.1 (B 3) (by omega) (by simpa using n23.symm)
  have e5 : gL G' (B 5) = gL G (B 5) := hfr.2.2.1 (B 5) (by omega) (by simpa using n25.symm)
  have x4 := E 4 (by decide) (by decide) (by decide) (by decide)
  have x5 := E 5 (by decide) (by decide) (by decide) (by decide)
  have x3 := E 3 (by decide) (by decide) (by decide) (by decide)
  have x24 := E 24 (by decide) (by decide) (by decide) (by decide)
  have lo : ∀ f j : Nat, f < 61 → f ≠ 7 → (j : Int) < R 7 0 → S f j = R f j := fun f j hf h7 hj => ej f j hf h7 (by omega)
  obtain ⟨m1, ⟨m2, m3, m4, m5, m6⟩, ⟨m7, m8, m9⟩, ⟨m10, m11, m12, m13, m14, m15⟩, m16⟩ := hN
  have hbh := rkB_fr hB hfr (fun k z => by cases z)
  have z13 : ∀ f : Nat, f = 13 ∨ (15 ≤ f ∧ f ≤ 18) ∨ (20 ≤ f ∧ f ≤ 23) → S f (R 7 0).toNat = 0 := fun f hf => by
    rw [E f (by omega) (by omega) (by omega) (by omega)]
    exact hE.1 f _ hf (by omega)
  have hW' : rkW G' B S := by
    refine ⟨hbh, ?_, ⟨?_, fun j j0 j1 => ?_⟩, ⟨by rw [e3, x24]; exact p1', fun j j0 j1 => ?_⟩, ?_, ?_, ?_, ?_, ?_, ?_, hrr, ?_⟩
    · obtain ⟨y1, y2⟩ := rkH_fr ⟨b1, b2⟩ hfr (fun k z => by cases z) e1
      refine ⟨by rw [x3]; exact y1, fun j j0 j1 => ?_⟩
      rw [x3] at j1
      have := y2 j j0 j1
      unfold rkHo rDep
      unfold rkHo rDep at this
      rw [x4, x5, E 6 (by decide) (by decide) (by decide) (by decide), rDepth_eq x4]
      exact this
    · rw [l2, s7, List.length_append]
      show (((gL G (B 2)).length + 1 : Nat) : Int) = _
      omega
    · rw [s7] at j1
      by_cases cj : j = R 7 0
      · rw [cj, rkAt_new a1 l2]
        refine ⟨⟨m1, m2, by rw [s8]; exact m3, by rw [s9, rkAt_same e1]; exact m4, by rw [s10]; exact m5, by rw [s11]; exact m6⟩, ⟨q, m7, m8, ?_⟩, ⟨by rw [s12]; exact m10, by rw [z13 13 (by omega)]; exact m11, ?_, by rw [z13 15 (by omega)]; exact m13, by rw [z13 16 (by omega)]; exact m14, by rw [z13 17 (by omega)]; exact m15⟩, Or.inl ⟨s19, m16⟩⟩
        · rw [m9]
          exact rkText_z iH iHl x4 x5 h1 h2 h3 hw s8 s9 s10 s11
        · unfold rkAll
          rw [s14, if_pos (by decide)]; exact m12
      · have j2 : j < R 7 0 := by omega
        have d := iAd j.toNat (by omega)
        obtain ⟨⟨o1, o2, o3, o4, o5, o6⟩, ⟨x, y1, y2, y3⟩, ⟨c1, c2, c3, c4, c5, c6⟩, ln⟩ := a2 j j0 j2
        have hn : gK G (rkAt G (B 2) j) ≠ 0 := by rw [o1]; decide
        have L : ∀ f : Nat, f < 61 → f ≠ 7 → S f j.toNat = R f j.toNat := fun f hf h7 => lo f j.toNat hf h7 (by omega)
        have N : ∀ f, gI G' f (rkAt G (B 2) j) = gI G f (rkAt G (B 2) j) ∧ gP G' f (rkAt G (B 2) j) = gP G f (rkAt G (B 2) j) := fun f => hfr.2.1 f _ hn List.not_mem_nil
        have sg : ∀ k, rSign S j k = rSign R j k := fun k => by
          have sf : ∀ (n : Nat) (u v : Int), rSignF S j n u v = rSignF R j n u v := by
            intro n
            induction n with
            | zero => intro u v; rfl
            | succ n ih =>
              intro u v
              unfold rSignF rBeh rBeh2
              rw [x4, x5, L 10 (by decide) (by decide), L 11 (by decide) (by decide)]
              simp only [ih]
          unfold rSign
          rw [L 8 (by decide) (by decide), L 9 (by decide) (by decide), sf]
        rw [rkAt_app a1 l2 j0 j2]
        refine ⟨⟨(hfr.1 _ hn).trans o1, (N 300).1.trans o2, by rw [L 8 (by decide) (by decide)]; exact (N 301).1.trans o3, by rw [L 9 (by decide) (by decide), rkAt_same e1]; exact (N 302).2.trans o4, by rw [L 10 (by decide) (by decide)]; exact (N 303).1.trans o5, by rw [L 11 (by decide) (by decide)]; exact (N 304).1.trans o6⟩, ⟨x, (N 305).2.trans y1, (hfr.1 _ (by rw [y2]; decide)).trans y2, ?_⟩, ⟨?_, by rw [L 13 (by decide) (by decide)]; exact (N 307).1.trans c2, ?_, by rw [L 15 (by decide) (by decide)]; exact (N 309).1.trans c4, by rw [L 16 (by decide) (by decide)]; exact (N 310).1.trans c5, by rw [L 17 (by decide) (by decide)]; exact (N 311).1.trans c6⟩, ?_⟩
        · have hx : x ≠ B 2 := fun z => by rw [z, k2] at y2; cases y2
          rw [hfr.2.2.1 x (by rw [y2]; decide) (by simpa using hx)]
          unfold rkTx
          simp only [sg]
          exact y3
        · rw [L 12 (by decide) (by decide), rkOp_app a1 l2 d.2.2.2.2.1.1 d.2.2.2.2.1.2]; exact (N 306).2.trans c1
        · have hal : rkAll S j = rkAll R j := by
            unfold rkAll
            rw [L 14 (by decide) (by decide)]
            split
            · rfl
            · have dd := d.2.2.2.2.2.2.1
              unfold rkOrg rGate
              rw [lo 8 _ (by decide) (by decide) (by omega), lo 9 _ (by decide) (by decide) (by omega), lo 10 _ (by decide) (by decide) (by omega)]
          rw [hal]; exact (N 308).1.trans c3
        · rw [L 19 (by decide) (by decide)]
          rcases ln with ⟨z1, z2⟩ | ⟨z1, cc, z2, z3⟩
          · exact Or.inl ⟨z1, (N 312).2.trans z2⟩
          · refine Or.inr ⟨z1, cc, (N 312).2.trans z2, ?_⟩
            have y := rkLn_fr z3 hfr (fun k z => by cases z) e1
            unfold rkLn
            unfold rkLn at y
            rw [L 18 (by decide) (by decide), L 19 (by decide) (by decide), L 20 (by decide) (by decide), L 21 (by decide) (by decide), L 22 (by decide) (by decide), L 23 (by decide) (by decide)]
            exact y
    · rw [x24] at j1
      obtain ⟨o1, o2, o3, o4⟩ := p2 j j0 j1
      have u := iP.2 j.toNat (by omega)
      have hn : gK G (rkAt G (B 3) j) ≠ 0 := by rw [o1]; decide
      have N : ∀ f, gI G' f (rkAt G (B 3) j) = gI G f (rkAt G (B 3) j) ∧ gP G' f (rkAt G (B 3) j) = gP G f (rkAt G (B 3) j) := fun f => hfr.2.1 f _ hn List.not_mem_nil
      rw [rkAt_same e3]
      unfold rkPa
      rw [E 25 (by decide) (by decide) (by decide) (by decide), E 26 (by decide) (by decide) (by decide) (by decide), E 27 (by decide) (by decide) (by decide) (by decide), rkAt_app a1 l2 u.1.1 u.1.2, rkOp_same e3]
      exact ⟨(hfr.1 _ hn).trans o1, (N 1000).2.trans o2, (N 1001).2.trans o3, (N 1002).1.trans o4⟩
    · unfold RH; rw [x3, x4]; exact iH
    · exact ⟨by rw [s7]; omega, by rw [s7]; omega⟩
    · intro j hj
      rw [s7] at hj
      rw [s7, x3]
      by_cases cj : j = (R 7 0).toNat
      · rw [cj, s8, s9, s10, s11, s12, s14, z13 13 (by omega), z13 20 (by omega)]
        exact ⟨h1, h2, h3, hw, ⟨by omega, by omega⟩, by omega, ⟨by omega, by omega⟩, ⟨by omega, by omega⟩⟩
      · obtain ⟨d1, d2, d3, d4, d5, d6, d7, d8⟩ := iAd j (by omega)
        rw [ej 8 j (by decide) (by decide) cj, ej 9 j (by decide) (by decide) cj, ej 10 j (by decide) (by decide) cj, ej 11 j (by decide) (by decide) cj, ej 12 j (by decide) (by decide) cj, ej 13 j (by decide) (by decide) cj, ej 14 j (by decide) (by decide) cj, ej 20 j (by decide) (by decide) cj]
        exact ⟨d1, d2, d3, d4, ⟨d5.1, by omega⟩, d6, ⟨d7.1, by omega⟩, d8⟩
    · unfold RHl; rw [x3, x5]; exact iHl
    · refine ⟨by rw [x24]; exact iP.1, fun j hj => ?_⟩
      rw [x24] at hj
      obtain ⟨u1, u2', u3⟩ := iP.2 j hj
      rw [E 25 (by decide) (by decide) (by decide) (by decide), E 26 (by decide) (by decide) (by decide) (by decide), E 27 (by decide) (by decide) (by decide) (by decide), s7]
      exact ⟨⟨u1.1, by omega⟩, u2', u3⟩
    · intro j hj
      rw [s7] at hj
      by_cases cj : j = (R 7 0).toNat
      · rw [cj, s19, z13 18 (by omega), z13 21 (by omega), z13 23 (by omega)]
        omega
      · rw [ej 18 j (by decide) (by decide) cj, ej 19 j (by decide) (by decide) cj, ej 21 j (by decide) (by decide) cj, ej 23 j (by decide) (by decide) cj]
        exact iS j (by omega)
    · refine ⟨by rw [x3, x4, x5]; exact iU.1, fun i j hi hj y8 y9 y10 y11 => ?_, fun i hi => ?_⟩
      · rw [s7] at hi hj
        have no := rFind_none (R 7 0).toNat hno
        by_cases ci : i = (R 7 0).toNat
        · by_cases cj : j = (R 7 0).toNat
          · omega
          · rw [ci, s8, ej 8 j (by decide) (by decide) cj] at y8
            rw [ci, s9, ej 9 j (by decide) (by decide) cj] at y9
            rw [ci, s10, ej 10 j (by decide) (by decide) cj] at y10
            rw [ci, s11, ej 11 j (by decide) (by decide) cj] at y11
            exact absurd ⟨y8.symm, y9.symm, y10.symm, y11.symm⟩ (no j (by omega))
        · by_cases cj : j = (R 7 0).toNat
          · rw [cj, s8, ej 8 i (by decide) (by decide) ci] at y8
            rw [cj, s9, ej 9 i (by decide) (by decide) ci] at y9
            rw [cj, s10, ej 10 i (by decide) (by decide) ci] at y10
            rw [cj, s11, ej 11 i (by decide) (by decide) ci] at y11
            exact absurd ⟨y8, y9, y10, y11⟩ (no i (by omega))
          · rw [ej 8 i (by decide) (by decide) ci, ej 8 j (by decide) (by decide) cj] at y8
            rw [ej 9 i (by decide) (by decide) ci, ej 9 j (by decide) (by decide) cj] at y9
            rw [ej 10 i (by decide) (by decide) ci, ej 10 j (by decide) (by decide) cj] at y10
            rw [ej 11 i (by decide) (by decide) ci, ej 11 j (by decide) (by decide) cj] at y11
            exact iU.2.1 i j (by omega) (by omega) y8 y9 y10 y11
      · rw [s7] at hi
        by_cases ci : i = (R 7 0).toNat
        · rw [ci, s11]; exact h4
        · rw [ej 11 i (by decide) (by decide) ci]; exact iU.2.2 i (by omega)
  have bb : gK G (B 0) ≠ 0 := by rw [b0]; decide
  have V : ∀ f : Nat, 20 ≤ f → f < 61 → S f = R f := fun f f1 f2 => E f f2 (by omega) (by omega) (by omega)
  have x0 := E 0 (by decide) (by decide) (by decide) (by decide)
  have xx1 := E 1 (by decide) (by decide) (by decide) (by decide)
  have xx2 := E 2 (by decide) (by decide) (by decide) (by decide)
  refine ⟨hW', rkC_R (rkC_fr hB hC hfr (fun k z => by cases z) (by simpa using n12) (by simpa using n28.symm)) (fun f f1 f2 => V f (by omega) (by omega)) (by rw [xx1]; exact Int.le_refl _), ⟨?_, ?_, ?_, hrr⟩, rkQ_fr hB hQ hfr (fun k z => by cases z) (by simpa using n29.symm) (fun f hf => by rcases hf with z | z | z; exact V f (by omega) (by omega); rw [z]; exact x0; rw [z]; exact xx1), ?_, by rw [xx2]; exact ((hfr.2.1 1407 (B 0) bb List.not_mem_nil).1).trans t1, by rw [x0]; exact ((hfr.2.1 1408 (B 0) bb List.not_mem_nil).1).trans t2, by rw [V 53 (by decide) (by decide)]; exact ((hfr.2.1 1409 (B 0) bb List.not_mem_nil).1).trans t3⟩
  · unfold RC
    rw [V 34 (by decide) (by decide), V 37 (by decide) (by decide), x3, V 39 (by decide) (by decide), V 35 (by decide) (by decide), V 36 (by decide) (by decide)]
    exact hJ.1
  · unfold rkCd
    rw [V 34 (by decide) (by decide), V 43 (by decide) (by decide)]
    exact hJ.2.1
  · unfold rkCu
    rw [V 34 (by decide) (by decide), V 35 (by decide) (by decide), V 37 (by decide) (by decide), V 39 (by decide) (by decide), V 41 (by decide) (by decide)]
    exact hJ.2.2.1
  · obtain ⟨f1, f2, f3, f4, f5, f6⟩ := hF
    have fk : ∀ k : Int, 0 ≤ k → k < R 54 0 → 0 ≤ R 56 k.toNat ∧ R 56 k.toNat < R 7 0 := fun k k0 k1 => (f6.2.1 k.toNat (by omega)).2.1
    have K : ∀ k x, (0 ≤ k ∧ k < R 54 0) → rkPf G B R k x → rkPf G' B S k x := fun k x hk hx => by
      obtain ⟨z0, z1, z2, z3, z4, z5, z6⟩ := hx
      have hn : gK G x ≠ 0 := by rw [z0]; decide
      have N : ∀ f, gI G' f x = gI G f x ∧ gP G' f x = gP G f x := fun f => hfr.2.1 f _ hn List.not_mem_nil
      have r := fk k hk.1 hk.2
      unfold rkPf
      rw [V 55 (by decide) (by decide), V 56 (by decide) (by decide), V 57 (by decide) (by decide), V 58 (by decide) (by decide), V 59 (by decide) (by decide), V 60 (by decide) (by decide), rkAt_app a1 l2 r.1 r.2]
      exact ⟨(hfr.1 x hn).trans z0, (N 1200).1.trans z1, (N 1201).2.trans z2, (N 1202).1.trans z3, (N 1203).1.trans z4, (N 1204).1.trans z5, (N 1205).1.trans z6⟩
    have K' : ∀ k x, (0 ≤ k ∧ k < R 54 0) → gK G x ≠ 0 → rkPf G' B S k x → rkPf G B R k x := fun k x hk hn hx => by
      have N : ∀ f, gI G' f x = gI G f x ∧ gP G' f x = gP G f x := fun f => hfr.2.1 f _ hn List.not_mem_nil
      have r := fk k hk.1 hk.2
      unfold rkPf at hx
      rw [V 55 (by decide) (by decide), V 56 (by decide) (by decide), V 57 (by decide) (by decide), V 58 (by decide) (by decide), V 59 (by decide) (by decide), V 60 (by decide) (by decide), rkAt_app a1 l2 r.1 r.2] at hx
      obtain ⟨z0, z1, z2, z3, z4, z5, z6⟩ := hx
      exact ⟨(hfr.1 x hn).symm.trans z0, (N 1200).1.symm.trans z1, (N 1201).2.symm.trans z2, (N 1202).1.symm.trans z3, (N 1203).1.symm.trans z4, (N 1204).1.symm.trans z5, (N 1205).1.symm.trans z6⟩
    have kx : ∀ x ∈ gL G (B 5), gK G x ≠ 0 := fun x hx => by
      obtain ⟨k, -, z, -⟩ := f3 x hx
      rw [z.1]; decide
    refine ⟨by rw [e5, V 53 (by decide) (by decide)]; exact f1, by rw [e5]; exact f2, fun x hx => ?_, fun k k0 k1 hg => ?_, fun x hx y hy k k0 k1 hkx hky => ?_, ?_⟩
    · rw [e5] at hx
      obtain ⟨k, hk, hp, hg⟩ := f3 x hx
      exact ⟨k, by rw [V 54 (by decide) (by decide)]; exact hk, K k x hk hp, by rw [x0, V 60 (by decide) (by decide)]; exact hg⟩
    · rw [V 54 (by decide) (by decide)] at k1
      rw [x0, V 60 (by decide) (by decide)] at hg
      obtain ⟨x, hx, hp⟩ := f4 k k0 k1 hg
      exact ⟨x, by rw [e5]; exact hx, K k x ⟨k0, k1⟩ hp⟩
    · rw [e5] at hx hy
      rw [V 54 (by decide) (by decide)] at k1
      exact f5 x hx y hy k k0 k1 (K' k x ⟨k0, k1⟩ (kx x hx) hkx) (K' k y ⟨k0, k1⟩ (kx y hy) hky)
    · obtain ⟨g1, g2, g3⟩ := f6
      refine ⟨by rw [V 54 (by decide) (by decide)]; exact g1, fun k hk => ?_, by rw [V 54 (by decide) (by decide), V 55 (by decide) (by decide), V 56 (by decide) (by decide), V 57 (by decide) (by decide), V 58 (by decide) (by decide)]; exact g3⟩
      rw [V 54 (by decide) (by decide)] at hk
      obtain ⟨y1, y2, y3⟩ := g2 k hk
      rw [V 55 (by decide) (by decide), V 56 (by decide) (by decide), V 57 (by decide) (by decide), V 58 (by decide) (by decide)]
      exact ⟨y1, ⟨y2.1, by omega⟩, y3⟩
end FACES8
