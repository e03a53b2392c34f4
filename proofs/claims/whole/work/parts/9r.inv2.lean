/-! the other faces keep what holds between the calls -/
section INVS2
variable {ks ls : List Nat} {G G' G1 : GT} {B : Nat → Nat} {R S T : RT} {n a b c w s t d v f : Int} {q : Nat}
theorem rkbt {x : Bool} (h : ¬ x = false) : x = true := by cases x; exact absurd rfl h; rfl
/-- allow -/
theorem lf_all (hZ : rkZ G B R) (hp : rkPs G B R) (hI : rkInv R n) (h01 : c = 0 ∨ c = 1) : rAllR R a w c s t 71 0 = rAllC R a w s t ∧ (¬ rAllC R a w s t = 0 → rkRel G B (n + 1) (rAllR R a w c s t) G) ∧ ∀ G', (rAllC R a w s t = 0 ∧ G' = sI (sI (sI (sI G 308 (rkAt G (B 2) a) (if w < 0 then w else rkOrg R w)) 309 (rkAt G (B 2) a) c) 310 (rkAt G (B 2) a) s) 311 (rkAt G (B 2) a) t) → rkRel G B (n + 1) (rAllR R a w c s t) G' := by
  have hc : rAllC R a w s t = 0 ∨ rAllC R a w s t = 1 ∨ rAllC R a w s t = 2 := by unfold rAllC; split; simp; split <;> simp
  refine ⟨?_, fun h0 => ?_, fun G' hh => ?_⟩
  · unfold rAllR
    split
    · exact rF_71
    · rw [u2_k (by decide), u2_k (by decide), u2_k (by decide), u2_k (by decide)]; exact rF_71
  · have e : rAllR R a w c s t = rF R (rAllC R a w s t) := if_pos (by omega)
    rw [e]
    exact rkRel_F hZ hp hI ⟨by omega, by omega⟩
  · obtain ⟨h0, rfl⟩ := hh
    have h0' := h0
    unfold rAllC at h0'
    by_cases c1 : rAllIs R a w = false
    · rw [if_pos c1] at h0'; cases h0'
    · rw [if_neg c1] at h0'
      have d1 := rAllIs_t.mp (rkbt c1)
      by_cases c2 : (rLies s 0 3 && rLies t 0 1000) = true
      · have c3 := (Bool.and_eq_true _ _).mp c2
        have d2 := rLs_t.mp c3.1
        have d3 := rLs_t.mp c3.2
        have e : rAllR R a w c s t = u2 (u2 (u2 (u2 (rF R (rAllC R a w s t)) 14 a.toNat w) 15 a.toNat c) 16 a.toNat s) 17 a.toNat t := if_neg (by omega)
        rw [e]
        have E : ∀ g : Nat, g < 61 → ¬ (14 ≤ g ∧ g ≤ 17) → u2 (u2 (u2 (u2 (rF R (rAllC R a w s t)) 14 a.toNat w) 15 a.toNat c) 16 a.toNat s) 17 a.toNat t g = R g := fun g f1 f2 => by
          funext j
          rw [u2_k (by omega), u2_k (by omega), u2_k (by omega), u2_k (by omega), rF_o (by omega)]
        have Ej : ∀ g j : Nat, g < 61 → j ≠ a.toNat → u2 (u2 (u2 (u2 (rF R (rAllC R a w s t)) 14 a.toNat w) 15 a.toNat c) 16 a.toNat s) 17 a.toNat t g j = R g j := fun g j f1 f2 => by
          rw [u2_a f2, u2_a f2, u2_a f2, u2_a f2, rF_o (by omega)]
        have hfr : rkFr [308, 309, 310, 311] [] G (sI (sI (sI (sI G 308 (rkAt G (B 2) a) (if w < 0 then w else rkOrg R w)) 309 (rkAt G (B 2) a) c) 310 (rkAt G (B 2) a) s) 311 (rkAt G (B 2) a) t) := fr_sI (by decide) (by decide) (fr_sI (by decide) (by decide) (fr_sI (by decide) (by decide) (fr_sI (by decide) (by decide) fr_rfl)))
        have kp : rkKp B G (sI (sI (sI (sI G 308 (rkAt G (B 2) a) (if w < 0 then w else rkOrg R w)) 309 (rkAt G (B 2) a) c) 310 (rkAt G (B 2) a) s) 311 (rkAt G (B 2) a) t) := rkKp_fr hfr (by decide) (fun x z => by cases z)
        refine ⟨kp, rkZ_all (T := rF R (rAllC R a w s t)) hZ ⟨by omega, by omega⟩ (by omega) h01 d2 d3 (fun k hk => rF_o (by omega)) (InR_u (rkInR hZ) ⟨by omega, by omega⟩), rkPs_s hZ hp kp rfl rfl rfl (fun g hf => E g (by omega) (by omega)), rkInv_rows hI (fun g hf => E g (by omega) (by omega)) (by rw [E 3 (by decide) (by decide)]; exact Int.le_refl _) ⟨fun g j hf hj => ?_, fun j hj => ?_⟩ (fun j => ?_)⟩
        · rw [E 7 (by decide) (by decide)] at hj
          rw [Ej g j (by omega) (by omega)]; exact hI.2.2.1.1 g j hf hj
        · rw [E 3 (by decide) (by decide)] at hj
          rw [E 6 (by decide) (by decide)]; exact hI.2.2.1.2 j hj
        · by_cases cj : j = a.toNat
          · subst cj
            rw [u2_k (by decide), u2_s, u2_s]; exact ⟨d2, d3⟩
          · rw [Ej 16 j (by decide) cj, Ej 17 j (by decide) cj]; exact hI.2.2.2.1 j
      · rw [if_neg c2] at h0'; cases h0'
/-- setsCookie -/
theorem lf_set {m : Int} (hZ : rkZ G B R) (hp : rkPs G B R) (hI : rkInv R m) : rSetR R a n v d w f t 71 0 = rSetC R a n v d w f t ∧ (¬ rSetC R a n v d w f t = 0 → rkRel G B (m + 1) (rSetR R a n v d w f t) G) ∧ ∀ G', (rSetC R a n v d w f t = 0 ∧ ((v = -1 ∧ G' = sP G 312 (rkAt G (B 2) a) none) ∨ (¬ v = -1 ∧ ∃ q, gK G q = 0 ∧ G' = sP (rkNewL G B n v d w f t q) 312 (rkAt G (B 2) a) (some q)))) → rkRel G B (m + 1) (rSetR R a n v d w f t) G' := by
  have hc : rSetC R a n v d w f t = 0 ∨ rSetC R a n v d w f t = 1 ∨ rSetC R a n v d w f t = 2 := by unfold rSetC; split; simp; split <;> simp
  refine ⟨?_, fun h0 => ?_, fun G' hh => ?_⟩
  · unfold rSetR
    split
    · exact rF_71
    · rw [u2_k (by decide), u2_k (by decide), u2_k (by decide), u2_k (by decide), u2_k (by decide), u2_k (by decide)]; exact rF_71
  · have e : rSetR R a n v d w f t = rF R (rSetC R a n v d w f t) := if_pos (by omega)
    rw [e]
    exact rkRel_F hZ hp hI ⟨by omega, by omega⟩
  · obtain ⟨h0, h1⟩ := hh
    have h0' := h0
    unfold rSetC at h0'
    by_cases c1 : rSetIs R a d = false
    · rw [if_pos c1] at h0'; cases h0'
    · rw [if_neg c1] at h0'
      have d1 := rSetIs_t.mp (rkbt c1)
      by_cases c2 : rSetOk n v w f t = true
      · obtain ⟨d2, d3, d4, d5, d6⟩ := rSetOk_t.mp c2
        have dw := rIsPath_in d4
        have hh3 : 0 ≤ R 3 0 ∧ R 3 0 ≤ 16 := hZ.1.2.2.2.2.1.1
        have e : rSetR R a n v d w f t = u2 (u2 (u2 (u2 (u2 (u2 (rF R (rSetC R a n v d w f t)) 18 a.toNat n) 19 a.toNat v) 20 a.toNat d) 21 a.toNat w) 22 a.toNat f) 23 a.toNat t := if_neg (by omega)
        rw [e]
        have E : ∀ g : Nat, g < 61 → ¬ (18 ≤ g ∧ g ≤ 23) → u2 (u2 (u2 (u2 (u2 (u2 (rF R (rSetC R a n v d w f t)) 18 a.toNat n) 19 a.toNat v) 20 a.toNat d) 21 a.toNat w) 22 a.toNat f) 23 a.toNat t g = R g := fun g f1 f2 => by
          funext j
          rw [u2_k (by omega), u2_k (by omega), u2_k (by omega), u2_k (by omega), u2_k (by omega), u2_k (by omega), rF_o (by omega)]
        have Ej : ∀ g j : Nat, g < 61 → j ≠ a.toNat → u2 (u2 (u2 (u2 (u2 (u2 (rF R (rSetC R a n v d w f t)) 18 a.toNat n) 19 a.toNat v) 20 a.toNat d) 21 a.toNat w) 22 a.toNat f) 23 a.toNat t g j = R g j := fun g j f1 f2 => by
          rw [u2_a f2, u2_a f2, u2_a f2, u2_a f2, u2_a f2, u2_a f2, rF_o (by omega)]
        have fin : ∀ G1 r, rkFr [312] [] G G1 → gL G1 (B 2) = gL G (B 2) → gL G1 (B 3) = gL G (B 3) → gL G1 (B 4) = gL G (B 4) → rkZ G1 B (u2 (u2 (u2 (u2 (u2 (u2 (rF R (rSetC R a n v d w f t)) 18 a.toNat n) 19 a.toNat v) 20 a.toNat d) 21 a.toNat w) 22 a.toNat f) 23 a.toNat t) → (r : Nat) = r → rkRel G B (m + 1) (u2 (u2 (u2 (u2 (u2 (u2 (rF R (rSetC R a n v d w f t)) 18 a.toNat n) 19 a.toNat v) 20 a.toNat d) 21 a.toNat w) 22 a.toNat f) 23 a.toNat t) G1 := fun G1 r hfr l2 l3 l4 hz _ => by
          have kp : rkKp B G G1 := rkKp_fr hfr (by decide) (fun x z => by cases z)
          refine ⟨kp, hz, rkPs_s hZ hp kp l2 l3 l4 (fun g hf => E g (by omega) (by omega)), rkInv_rows hI (fun g hf => E g (by omega) (by omega)) (by rw [E 3 (by decide) (by decide)]; exact Int.le_refl _) ⟨fun g j hf hj => ?_, fun j hj => ?_⟩ (fun j => by rw [E 16 (by decide) (by decide), E 17 (by decide) (by decide)]; exact hI.2.2.2.1 j)⟩
          · rw [E 7 (by decide) (by decide)] at hj
            rw [Ej g j (by omega) (by omega)]; exact hI.2.2.1.1 g j hf hj
          · rw [E 3 (by decide) (by decide)] at hj
            rw [E 6 (by decide) (by decide)]; exact hI.2.2.1.2 j hj
        have zs := fun (G2 : GT) (r : Option Nat) => rkZ_set (G := G) (G2 := G2) (B := B) (R := R) (T := rF R (rSetC R a n v d w f t)) (a := a) (n := n) (v := v) (d := d) (w := w) (f := f) (t := t) (r := r) hZ ⟨by omega, by omega⟩ d2 d3 (by omega) dw ⟨by omega, by omega⟩ d6 (fun k hk => rF_o (by omega)) (InR_u (rkInR hZ) ⟨by omega, by omega⟩)
        rcases h1 with ⟨h2, rfl⟩ | ⟨h2, q, h3, rfl⟩
        · exact fin _ 0 (fr_sP (by decide) (by decide) fr_rfl) rfl rfl rfl (zs G none fr_rfl (Or.inl ⟨h2, rfl⟩)) rfl
        · have hf2 : rkFr [] [] G (rkNewL G B n v d w f t q) := fr_sIq h3 (fr_sIq h3 (fr_sIq h3 (fr_sPq h3 (by decide) (fr_sIq h3 (fr_sIq h3 (fr_nO h3 (by decide) fr_rfl))))))
          refine fin _ 0 (fr_sP (by decide) (by decide) (fr_wide hf2 (fun k z => by cases z) (fun k z => z))) rfl rfl rfl (zs _ (some q) hf2 (Or.inr ⟨h2, q, rfl, nO_q, ?_, ?_, ?_, ?_, ?_, ?_⟩)) rfl
          · show u2 (u2 (u2 (u2 (u2 (gI (nO G q 6)) 600 q n) 601 q v) 603 q w) 604 q f) 605 q t 600 q = _
            rw [u2_k (by decide), u2_k (by decide), u2_k (by decide), u2_k (by decide), u2_s]
          · show u2 (u2 (u2 (u2 (u2 (gI (nO G q 6)) 600 q n) 601 q v) 603 q w) 604 q f) 605 q t 601 q = _
            rw [u2_k (by decide), u2_k (by decide), u2_k (by decide), u2_s]
          · show u2 (gP (nO G q 6)) 602 q (rkOp G (B 1) d) 602 q = _
            rw [u2_s]
          · show u2 (u2 (u2 (u2 (u2 (gI (nO G q 6)) 600 q n) 601 q v) 603 q w) 604 q f) 605 q t 603 q = _
            rw [u2_k (by decide), u2_k (by decide), u2_s]
          · show u2 (u2 (u2 (u2 (u2 (gI (nO G q 6)) 600 q n) 601 q v) 603 q w) 604 q f) 605 q t 604 q = _
            rw [u2_k (by decide), u2_s]
          · show u2 (u2 (u2 (u2 (u2 (gI (nO G q 6)) 600 q n) 601 q v) 603 q w) 604 q f) 605 q t 605 q = _
            rw [u2_s]
      · rw [if_neg c2] at h0'; cases h0'
/-- toggleBlocking -/
theorem lf_tog (hZ : rkZ G B R) (hp : rkPs G B R) (hI : rkInv R n) : rkRel G B (n + 1) (rTogBR R) (sI G 1407 (B 0) (if R 2 0 = 0 then 1 else 0)) := by
  have v01 : InR (if R 2 0 = 0 then (1 : Int) else 0) := by split <;> exact ⟨by decide, by decide⟩
  have E : ∀ g : Nat, g < 61 → g ≠ 2 → rTogBR R g = R g := fun g f1 f2 => by
    funext j
    unfold rTogBR
    rw [u2_k f2, rF_o (by omega)]
  have hfr : rkFr [1407] [] G (sI G 1407 (B 0) (if R 2 0 = 0 then 1 else 0)) := fr_sI (by decide) (by decide) fr_rfl
  have kp : rkKp B G (sI G 1407 (B 0) (if R 2 0 = 0 then 1 else 0)) := rkKp_fr hfr (by decide) (fun x z => by cases z)
  have z1 := rkZ_tog (v := if R 2 0 = 0 then 1 else 0) hZ v01
  have hz : rkZ (sI G 1407 (B 0) (if R 2 0 = 0 then 1 else 0)) B (rTogBR R) := by
    have z2 := rkZ_rF (c := 0) z1 ⟨by decide, by decide⟩
    have e : rF (u2 R 2 0 (if R 2 0 = 0 then 1 else 0)) 0 = rTogBR R := by
      funext g j
      unfold rTogBR rF
      simp only [u2r]
      by_cases c1 : g = 71 ∧ j = 0
      · rw [if_pos c1, if_neg (show ¬ (g = 2 ∧ j = 0) by omega), if_pos c1]
      · by_cases c3 : g = 2 ∧ j = 0
        · rw [if_neg c1, if_pos c3, if_pos c3]
        · rw [if_neg c1, if_neg c3, if_neg c3, if_neg c1]
    rw [e] at z2
    exact z2
  refine ⟨kp, hz, rkPs_s hZ hp kp rfl rfl rfl (fun g hf => E g (by omega) (by omega)), rkInv_rows hI (fun g hf => E g (by omega) (by omega)) (by rw [E 3 (by decide) (by decide)]; exact Int.le_refl _) (rkE0_rows hI.2.2.1 (fun g hf => E g (by omega) (by omega))) (fun j => by rw [E 16 (by decide) (by decide), E 17 (by decide) (by decide)]; exact hI.2.2.2.1 j)⟩
/-- page -/
theorem lf_page (hZ : rkZ G B R) (hp : rkPs G B R) (hI : rkInv R n) : rPageR R a b c 71 0 = rPageC R a b c ∧ (¬ rPageC R a b c = 0 → rkRel G B (n + 1) (rPageR R a b c) G) ∧ ∀ G', (rPageC R a b c = 0 ∧ ∃ q, gK G q = 0 ∧ G' = rkNewP G B a b c q) → rkRel G B (n + 1) (rPageR R a b c) G' := by
  have hc : 0 ≤ rPageC R a b c ∧ rPageC R a b c ≤ 3 := by unfold rPageC; (repeat (first | omega | split))
  refine ⟨?_, fun h0 => ?_, fun G' hh => ?_⟩
  · unfold rPageR
    split
    · exact rF_71
    · rw [u2_k (by decide), u2_k (by decide), u2_k (by decide), u2_k (by decide)]; exact rF_71
  · have e : rPageR R a b c = rF R (rPageC R a b c) := if_pos (by omega)
    rw [e]
    exact rkRel_F hZ hp hI ⟨by omega, by omega⟩
  · obtain ⟨h0, q, h3, rfl⟩ := hh
    have h0' := h0
    unfold rPageC at h0'
    by_cases c1 : rPageIs R a b = false
    · rw [if_pos c1] at h0'; cases h0'
    · rw [if_neg c1] at h0'
      have d1 := rPageIs_t.mp (rkbt c1)
      by_cases c2 : rLies c 0 4 = false
      · rw [if_pos c2] at h0'; cases h0'
      · rw [if_neg c2] at h0'
        have d2 := rLs_t.mp (rkbt c2)
        by_cases c3 : R 24 0 = 8
        · rw [if_pos c3] at h0'; cases h0'
        · have h24 := hZ.1.2.2.2.2.2.2.2.2.1.1
          have e : rPageR R a b c = u2 (u2 (u2 (u2 (rF R (rPageC R a b c)) 25 (R 24 0).toNat a) 26 (R 24 0).toNat b) 27 (R 24 0).toNat c) 24 0 (R 24 0 + 1) := if_neg (by omega)
          rw [e]
          have z := rkZ_page (T := rF R (rPageC R a b c)) (a := a) (b := b) (c := c) (q := q) hZ ⟨by omega, by omega⟩ (show -1 ≤ b ∧ b < R 24 0 by omega) d2 (by omega) h3 (fun k hk => rF_o (by omega)) (InR_u (rkInR hZ) ⟨by omega, by omega⟩)
          obtain ⟨n12, n13, n14, n15, n18, n19, n23, n24, n25, n28, n29, n34, n35, n38, n39, n45, n48, n49, n58, n59, n89⟩ := hZ.1.1.2.2.2
          have hfr : rkFr [] [B 3] G (rkNewP G B a b c q) := fr_sL List.mem_cons_self (fr_sIq h3 (fr_sPq h3 (by decide) (fr_sPq h3 (by decide) (fr_nO h3 (by decide) fr_rfl))))
          have kp : rkKp B G (rkNewP G B a b c q) := rkKp_fr hfr (fun k z => by cases z) (fun x z => Or.inr ⟨3, by decide, List.mem_singleton.mp z⟩)
          have E : ∀ f : Nat, f < 61 → f < 24 ∨ 27 < f → u2 (u2 (u2 (u2 (rF R (rPageC R a b c)) 25 (R 24 0).toNat a) 26 (R 24 0).toNat b) 27 (R 24 0).toNat c) 24 0 (R 24 0 + 1) f = R f := fun f f1 f2 => by
            funext j
            rw [u2_k (by omega), u2_k (by omega), u2_k (by omega), u2_k (by omega), rF_o (by omega)]
          have p1 := hZ.1.2.2.2.1.1
          have e3 : gL (rkNewP G B a b c q) (B 3) = gL G (B 3) ++ [q] := sL_s
          have e4 : gL (rkNewP G B a b c q) (B 4) = gL G (B 4) := sL_n n34.symm
          have e2 : gL (rkNewP G B a b c q) (B 2) = gL G (B 2) := sL_n n23
          obtain ⟨V, hV⟩ : ∃ V, V = u2 (u2 (u2 (u2 (rF R (rPageC R a b c)) 25 (R 24 0).toNat a) 26 (R 24 0).toNat b) 27 (R 24 0).toNat c) 24 0 (R 24 0 + 1) := ⟨_, rfl⟩
          have v24 : V 24 0 = R 24 0 + 1 := by rw [hV]; exact u2_s
          have v25 : ∀ j : Nat, (j : Int) < R 24 0 → V 25 j = R 25 j := fun j hj => by rw [hV, u2_k (by decide), u2_k (by decide), u2_k (by decide), u2_a (by omega), rF_o (by decide)]
          rw [← hV] at z ⊢
          rw [← hV] at E
          obtain ⟨G9, hG9⟩ : ∃ z, z = rkNewP G B a b c q := ⟨_, rfl⟩
          rw [← hG9] at kp z e2 e3 e4 ⊢
          refine ⟨kp, z, rkPs_k hp hZ.1.2.2.2.2.2.2.2.2.1 kp e4 (fun i _ _ => rkAt_same e2 i) (fun i i0 i1 => rkAt_app p1 e3 i0 i1) (by rw [E 7 (by decide) (by decide)]; exact Int.le_refl _) (by rw [v24]; omega) v25 (fun j _ => ⟨by rw [E 8 (by decide) (by decide)], by rw [E 9 (by decide) (by decide)], by rw [E 10 (by decide) (by decide)]⟩) (fun f f1 f2 => E f (by omega) (by omega)), rkInv_rows hI (fun f hf => E f (by omega) (by omega)) (by rw [E 3 (by decide) (by decide)]; exact Int.le_refl _) (rkE0_rows hI.2.2.1 (fun f hf => E f (by omega) (by omega))) (fun j => by rw [E 16 (by decide) (by decide), E 17 (by decide) (by decide)]; exact hI.2.2.2.1 j)⟩
/-- an address is told, or found -/
theorem rkRel_tell {h1 p1 : Int} (hZ : rkZ G B R) (hp : rkPs G B R) (hI : rkInv R n) (hs : 0 ≤ s ∧ s ≤ 1) (hh : 0 ≤ h1 ∧ h1 < R 3 0) (hpp : 0 ≤ p1 ∧ p1 ≤ 9999) (hw : rIsPath w = true) (hT : ∀ f : Nat, f < 61 → T f = R f) (hr : ∀ k j, InR (T k j)) (hk : InR c) (h : rkTold G G' B R s h1 p1 w) : rkRel G B (n + 1) (rF (rTellsR T s h1 p1 w) c) G' := by
  have hff : ∀ m : Nat, rFind T s h1 p1 w m = rFind R s h1 p1 w m := by
    intro m
    induction m with
    | zero => rfl
    | succ m ih =>
      unfold rFind
      rw [hT 8 (by decide), hT 9 (by decide), hT 10 (by decide), hT 11 (by decide), ih]
  have hf : rFnd T s h1 p1 w = rFnd R s h1 p1 w := by
    unfold rFnd
    rw [hT 7 (by decide), hff]
  have t7 : T 7 0 = R 7 0 := by rw [hT 7 (by decide)]
  rcases h with ⟨rfl, h2⟩ | ⟨h2, h3, a, q, h4, h5, h6, h7⟩
  · have e : rTellsR T s h1 p1 w = T := by unfold rTellsR; rw [if_neg (fun z => h2 (by rw [← hf]; exact z.1))]
    rw [e]
    exact rkRel_o hZ hp hI (fun f hf' => by rw [rF_o (by omega)]; exact hT f hf') (InR_u hr hk)
  · have e : rTellsR T s h1 p1 w = u2 (u2 (u2 (u2 (u2 (u2 (u2 (u2 T 8 (R 7 0).toNat s) 9 (R 7 0).toNat h1) 10 (R 7 0).toNat p1) 11 (R 7 0).toNat w) 12 (R 7 0).toNat (-1)) 14 (R 7 0).toNat (-1)) 19 (R 7 0).toNat (-1)) 7 0 (R 7 0 + 1) := by
      unfold rTellsR
      rw [if_pos ⟨by rw [hf]; exact h2, by rw [t7]; exact h3⟩, t7]
    rw [e]
    obtain ⟨X, hX⟩ : ∃ X, X = u2 (u2 (u2 (u2 (u2 (u2 (u2 (u2 T 8 (R 7 0).toNat s) 9 (R 7 0).toNat h1) 10 (R 7 0).toNat p1) 11 (R 7 0).toNat w) 12 (R 7 0).toNat (-1)) 14 (R 7 0).toNat (-1)) 19 (R 7 0).toNat (-1)) 7 0 (R 7 0 + 1) := ⟨_, rfl⟩
    rw [← hX]
    have dw := rIsPath_in hw
    have hh3 : 0 ≤ R 3 0 ∧ R 3 0 ≤ 16 := hZ.1.2.2.2.2.1.1
    have hh7 : 0 ≤ R 7 0 ∧ R 7 0 ≤ 24 := hZ.1.2.2.2.2.2.1
    have hXr : ∀ k j, InR (X k j) := by
      rw [hX]
      exact InR_u (InR_u (InR_u (InR_u (InR_u (InR_u (InR_u (InR_u hr ⟨by omega, by omega⟩) ⟨by omega, by omega⟩) ⟨by omega, by omega⟩) ⟨by omega, by omega⟩) ⟨by decide, by decide⟩) ⟨by decide, by decide⟩) ⟨by decide, by decide⟩) ⟨by omega, by omega⟩
    have E : ∀ f : Nat, f < 61 → ¬ (7 ≤ f ∧ f ≤ 12) → f ≠ 14 → f ≠ 19 → rF X c f = R f := fun f f1 f2 f3 f4 => by
      rw [rF_o (by omega), hX]
      funext j
      rw [u2_k (by omega), u2_k (by omega), u2_k (by omega), u2_k (by omega), u2_k (by omega), u2_k (by omega), u2_k (by omega), u2_k (by omega), hT f f1]
    have ej : ∀ f j : Nat, f < 61 → f ≠ 7 → j ≠ (R 7 0).toNat → rF X c f j = R f j := fun f j f1 f2 f3 => by
      rw [rF_o (by omega), hX, u2_k f2, u2_a f3, u2_a f3, u2_a f3, u2_a f3, u2_a f3, u2_a f3, u2_a f3, hT f f1]
    have x7 : rF X c 7 0 = R 7 0 + 1 := by rw [rF_o (by decide), hX]; exact u2_s
    have z : rkZ G' B (rF X c) := rkZ_addr hZ hI.2.2.1 h3 hs hh hpp hw h2 h5 h6 h7 E ej x7
      (by rw [rF_o (by decide), hX, u2_k (by decide), u2_k (by decide), u2_k (by decide), u2_k (by decide), u2_k (by decide), u2_k (by decide), u2_k (by decide), u2_s])
      (by rw [rF_o (by decide), hX, u2_k (by decide), u2_k (by decide), u2_k (by decide), u2_k (by decide), u2_k (by decide), u2_k (by decide), u2_s])
      (by rw [rF_o (by decide), hX, u2_k (by decide), u2_k (by decide), u2_k (by decide), u2_k (by decide), u2_k (by decide), u2_s])
      (by rw [rF_o (by decide), hX, u2_k (by decide), u2_k (by decide), u2_k (by decide), u2_k (by decide), u2_s])
      (by rw [rF_o (by decide), hX, u2_k (by decide), u2_k (by decide), u2_k (by decide), u2_s])
      (by rw [rF_o (by decide), hX, u2_k (by decide), u2_k (by decide), u2_s])
      (by rw [rF_o (by decide), hX, u2_k (by decide), u2_s]) (InR_u hXr hk)
    have kp : rkKp B G G' := rkKp_fr h5 (fun k z => by cases z) (fun x z => Or.inr ⟨2, by decide, List.mem_singleton.mp z⟩)
    obtain ⟨n12, n13, n14, n15, n18, n19, n23, n24, n25, n28, n29, n34, n35, n38, n39, n45, n48, n49, n58, n59, n89⟩ := hZ.1.1.2.2.2
    obtain ⟨k1, k2, k3, k4, -⟩ := hZ.1.1.2.1
    have a1 := hZ.1.2.2.1.1
    refine ⟨kp, z, rkPs_k hp hZ.1.2.2.2.2.2.2.2.2.1 kp (h5.2.2.1 (B 4) (by omega) (by simpa using n24.symm)) (fun i i0 i1 => rkAt_app a1 h6 i0 i1) (fun i _ _ => rkAt_same (h5.2.2.1 (B 3) (by omega) (by simpa using n23.symm)) i) (by rw [x7]; omega) (by rw [E 24 (by decide) (by decide) (by decide) (by decide)]; exact Int.le_refl _) (fun j _ => by rw [E 25 (by decide) (by decide) (by decide) (by decide)]) (fun j hj => ⟨ej 8 j (by decide) (by decide) (by omega), ej 9 j (by decide) (by decide) (by omega), ej 10 j (by decide) (by decide) (by omega)⟩) (fun f f1 f2 => E f (by omega) (by omega) (by omega) (by omega)), rkInv_rows hI (fun f hf => E f (by omega) (by omega) (by omega) (by omega)) (by rw [E 3 (by decide) (by decide) (by decide) (by decide)]; exact Int.le_refl _) ⟨fun f j hf hj => ?_, fun j hj => ?_⟩ (fun j => by rw [E 16 (by decide) (by decide) (by decide) (by decide), E 17 (by decide) (by decide) (by decide) (by decide)]; exact hI.2.2.2.1 j)⟩
    · rw [x7] at hj
      rw [E f (by omega) (by omega) (by omega) (by omega)]; exact hI.2.2.1.1 f j hf (by omega)
    · rw [E 3 (by decide) (by decide) (by decide) (by decide)] at hj
      rw [E 6 (by decide) (by decide) (by decide) (by decide)]; exact hI.2.2.1.2 j hj
theorem rTellsR_no (h : rTells T s b d w = -1) (hA : RA T) : rTellsR T s b d w = T := by
  unfold rTellsR
  unfold rTells at h
  have := hA.1
  split at h
  · omega
  · rename_i c9
    rw [if_neg c9]
/-- address -/
theorem lf_adr (hZ : rkZ G B R) (hp : rkPs G B R) (hI : rkInv R n) : ∀ R', R' = rF (rAMid R a b c d) (rACode R a b c d) → R' 71 0 = rACode R a b c d ∧ (¬ rACode R a b c d = 0 → rkRel G B (n + 1) R' G) ∧ ∀ G', (rACode R a b c d = 0 ∧ rkTold G G' B R a b c d) → rkRel G B (n + 1) R' G' := by
  intro R' hR'
  have hc : 0 ≤ rACode R a b c d ∧ rACode R a b c d ≤ 3 := by unfold rACode; (repeat (first | omega | split))
  have hA := hZ.1.2.2.2.2.2.1
  subst hR'
  refine ⟨rF_71, fun h0 => ?_, fun G' hh => ?_⟩
  · have e : rAMid R a b c d = R := by
      unfold rAMid
      by_cases c0 : (rIsHost R b && rAOk a c d) = true
      · rw [if_pos c0]
        refine rTellsR_no ?_ hA
        unfold rACode rAFound at h0
        have c1 := (Bool.and_eq_true _ _).mp c0
        rw [c1.1, c1.2] at h0
        by_cases c3 : rTells R a b c d = -1
        · exact c3
        · simp [c3] at h0
      · rw [if_neg c0]
    rw [e]
    exact rkRel_F hZ hp hI ⟨by omega, by omega⟩
  · obtain ⟨h0, h1⟩ := hh
    have h0' := h0
    unfold rACode at h0'
    by_cases c1 : rIsHost R b = false
    · rw [if_pos c1] at h0'; cases h0'
    · rw [if_neg c1] at h0'
      by_cases c2 : rAOk a c d = false
      · rw [if_pos c2] at h0'; cases h0'
      · have d1 := rIsH_t.mp (rkbt c1)
        obtain ⟨d2, d3, d4⟩ := rAOk_t.mp (rkbt c2)
        have e : rAMid R a b c d = rTellsR R a b c d := if_pos (by rw [rkbt c1, rkbt c2]; rfl)
        rw [e]
        exact rkRel_tell hZ hp hI d2 ⟨d1.1, by omega⟩ d3 d4 (fun _ _ => rfl) (rkInR hZ) ⟨by omega, by omega⟩ h1
/-- resolve -/
theorem lf_rsl {r : Int} (hZ : rkZ G B R) (hp : rkPs G B R) (hI : rkInv R n) (hz : ∀ k j, InR (rRslS R a r k j)) : ∀ R', R' = rF (rRslT R a r) (rRslC R a r) → R' 71 0 = rRslC R a r ∧ (¬ rRslC R a r = 0 → rkRel G B (n + 1) R' G) ∧ ∀ G', (rRslC R a r = 0 ∧ rkTold G G' B R (R 8 a.toNat) (R 9 a.toNat) (R 10 a.toNat) (rRslW R a r)) → rkRel G B (n + 1) R' G' := by
  intro R' hR'
  have hc : 0 ≤ rRslC R a r ∧ rRslC R a r ≤ 3 := by unfold rRslC; (repeat (first | omega | split))
  have hA := hZ.1.2.2.2.2.2.1
  have o : ∀ f : Nat, f < 61 → rRslS R a r f = R f := fun f hf => funext fun j => rkRslS_out f j (by omega)
  have hAS : RA (rRslS R a r) := by unfold RA; rw [o 7 (by decide)]; exact hA
  subst hR'
  refine ⟨rF_71, fun h0 => ?_, fun G' hh => ?_⟩
  · have e : rRslT R a r = rRslS R a r := by
      unfold rRslT
      by_cases c0 : rRslW R a r = -1
      · rw [if_pos c0]
      · rw [if_neg c0]
        refine rTellsR_no ?_ hAS
        unfold rRslC rRslV at h0
        rw [if_neg c0, if_neg c0] at h0
        by_cases c1 : rIsAddress R a = false
        · exfalso
          refine c0 ?_
          unfold rRslW rRslIs
          rw [c1, Bool.false_and]
          exact if_neg (by decide)
        · rw [if_neg c1] at h0
          by_cases c3 : rTells (rRslS R a r) (R 8 a.toNat) (R 9 a.toNat) (R 10 a.toNat) (rRslW R a r) = -1
          · exact c3
          · rw [if_neg c3] at h0
            exact absurd rfl h0
    rw [e]
    exact rkRel_o hZ hp hI (fun f hf => by rw [rF_o (by omega)]; exact o f hf) (InR_u hz ⟨by omega, by omega⟩)
  · obtain ⟨h0, h1⟩ := hh
    have h0' := h0
    unfold rRslC at h0'
    by_cases c1 : rIsAddress R a = false
    · rw [if_pos c1] at h0'; cases h0'
    · rw [if_neg c1] at h0'
      by_cases c2 : rRslW R a r = -1
      · rw [if_pos c2] at h0'; cases h0'
      · have d1 := rIsA_t.mp (rkbt c1)
        have href : rIsRef r = true := by
          cases hx : rIsRef r
          · exact absurd (rRslW_no hx) c2
          · rfl
        have eW := rRslW_t d1 href
        have dd := hZ.1.2.2.2.2.2.2.1 a.toNat (by omega)
        have pth := hZ.1.2.2.2.2.2.2.2.2.2.2.2.2.2 a.toNat (by omega)
        have hpath : rIsPath (rRslW R a r) = true := by
          rw [eW]
          rcases rkPb_rsd (R := R) (a := a) (r := r) pth href with ⟨y1, y2⟩ | ⟨y1, y2, y3⟩
          · exact absurd (eW.trans y2) c2
          · rw [y3]; exact rkPb_path pth href y1
        have e : rRslT R a r = rTellsR (rRslS R a r) (R 8 a.toNat) (R 9 a.toNat) (R 10 a.toNat) (rRslW R a r) := if_neg c2
        rw [e]
        exact rkRel_tell hZ hp hI dd.1 dd.2.1 dd.2.2.1 hpath o hz ⟨by omega, by omega⟩ h1
/-- pass -/
theorem rPassF_o : ∀ (m : Nat) (X Y : RT), (∀ f : Nat, f ≠ 71 → Y f = X f) → ∀ f : Nat, f ≠ 71 → rPassF m Y f = rPassF m X f := by
  intro m
  induction m with
  | zero => intro X Y h f hf; exact h f hf
  | succ m ih =>
    intro X Y h f hf
    rw [rPassF, rPassF]
    have hd : ∀ i : Int, ∀ g : Nat, g ≠ 71 → rDrops Y i g = rDrops X i g := fun i g hg => by
      funext j
      unfold rDrops rShift
      rw [h 34 (by decide)]
      by_cases c1 : g = 34
      · subst c1
        simp only [u2r, h 34 (by decide)]
      · simp only [u2r, h g hg]
    rw [h 42 (by decide), h 0 (by decide)]
    split
    · exact ih _ _ (hd m) f hf
    · exact ih _ _ h f hf
theorem rPassF_34 : ∀ (m : Nat) (X : RT), rPassF m X 34 0 ≤ X 34 0 := by
  intro m
  induction m with
  | zero => intro X; exact Int.le_refl _
  | succ m ih =>
    intro X
    rw [rPassF]
    split
    · have := ih (rDrops X m)
      rw [rDrops_34] at this
      omega
    · exact ih X
theorem lf_pass (hn : n ≤ 600) (hZ : rkZ G B R) (hp : rkPs G B R) (hI : rkInv R n) : rPassR R t 71 0 = rPassC t ∧ (¬ rPassC t = 0 → rkRel G B (n + 1) (rPassR R t) G) ∧ ∀ G', (rPassC t = 0 ∧ rkFr [1408] [B 8, B 5] G G' ∧ gI G' 1408 (B 0) = R 0 0 + t ∧ rkC G' B (rPassF (R 34 0).toNat (u2 R 0 0 (R 0 0 + t))) ∧ rkJ (rPassF (R 34 0).toNat (u2 R 0 0 (R 0 0 + t))) ∧ rkF G' B (rPassF (R 34 0).toNat (u2 R 0 0 (R 0 0 + t)))) → rkRel G B (n + 1) (rPassR R t) G' := by
  have hc : rPassC t = 0 ∨ rPassC t = 1 := by unfold rPassC; split <;> simp
  refine ⟨?_, fun h0 => ?_, fun G' hh => ?_⟩
  · unfold rPassR
    split
    · exact rF_71
    · rw [rkPs_o 71 (by decide), u2_k (by decide)]; exact rF_71
  · have e : rPassR R t = rF R (rPassC t) := if_pos (by omega)
    rw [e]
    exact rkRel_F hZ hp hI ⟨by omega, by omega⟩
  · obtain ⟨h0, h1, h2, h3, h4, h5⟩ := hh
    have d : 1 ≤ t ∧ t ≤ 1000 := by
      unfold rPassC at h0
      by_cases c1 : rLies t 1 1000 = true
      · exact rLs_t.mp c1
      · rw [if_neg c1] at h0; cases h0
    have e : rPassR R t = rPassF (R 34 0).toNat (u2 (rF R (rPassC t)) 0 0 (R 0 0 + t)) := if_neg (by omega)
    have z := rkZ_pass hZ d h1 h2 h3 h4 h5
    obtain ⟨V, hV⟩ : ∃ V, V = rPassF (R 34 0).toNat (u2 R 0 0 (R 0 0 + t)) := ⟨_, rfl⟩
    rw [← hV] at z h4
    have eo : ∀ f : Nat, f ≠ 71 → rPassR R t f = V f := fun f hf => by
      rw [e, hV]
      refine rPassF_o _ _ _ (fun g hg => ?_) f hf
      funext j
      by_cases c0 : g = 0
      · subst c0
        by_cases cj : j = 0
        · subst cj; rw [u2_s, u2_s]
        · rw [u2_a cj, u2_a cj, rF_o (by decide)]
      · rw [u2_k c0, u2_k c0, rF_o hg]
    have vo : ∀ f : Nat, f ≠ 0 → f < 34 ∨ 43 < f → V f = R f := fun f f1 f2 => by
      rw [hV, rkPs_o f f2]
      funext j
      exact u2_k f1
    have v0 : V 0 0 = R 0 0 + t := by rw [hV, rkPs_o 0 (by decide), u2_s]
    have v34 : V 34 0 ≤ R 34 0 := by
      have := rPassF_34 (R 34 0).toNat (u2 R 0 0 (R 0 0 + t))
      rw [← hV, u2_k (by decide)] at this
      exact this
    have E : ∀ f : Nat, f ≠ 0 → f ≠ 71 → f < 34 ∨ 43 < f → rPassR R t f = R f := fun f f1 f2 f3 => (eo f f2).trans (vo f f1 f3)
    have hr71 : InR (rPassR R t 71 0) := by
      rw [e, rkPs_o 71 (by decide), u2_k (by decide)]
      rw [rF_71]; exact ⟨by omega, by omega⟩
    have hrr : ∀ k j, InR (rPassR R t k j) := fun k j => by
      by_cases ck : k = 71
      · subst ck
        rw [e, rkPs_o 71 (by decide), u2_k (by decide)]
        exact InR_u (rkInR hZ) ⟨by omega, by omega⟩ 71 j
      · rw [eo k ck]; exact rkInR z k j
    have kp : rkKp B G G' := rkKp_fr h1 (by decide) (fun x hx => by
      simp at hx
      rcases hx with rfl | rfl
      · exact Or.inr ⟨8, by decide, rfl⟩
      · exact Or.inr ⟨5, by decide, rfl⟩)
    obtain ⟨⟨k1, k2, k3, k4⟩, m2, m3, m1, m4⟩ := rkB_l3 hZ.1.1
    obtain ⟨⟨x1, x2, x3, x4, x5, x6, x7, x8, x9⟩, ⟨r1, r2, r3⟩, i3, i4, i5⟩ := hI
    have e28 : rPassR R t 28 0 = R 28 0 := by rw [E 28 (by decide) (by decide) (by decide)]
    have e0 : rPassR R t 0 0 = R 0 0 + t := by rw [eo 0 (by decide)]; exact v0
    refine ⟨kp, rkZ_R z (fun f hf => eo f (by omega)) hrr, rkPs_s hZ hp kp (h1.2.2.1 (B 2) k2 (by simp; omega)) (h1.2.2.1 (B 3) k3 (by simp; omega)) (h1.2.2.1 (B 4) k4 (by simp; omega)) (fun f hf => E f (by omega) (by omega) (by omega)), ⟨?_, ?_, ?_, ?_, ?_, ?_, ?_, ?_, ?_⟩, ⟨?_, ?_, ?_⟩, rkE0_rows i3 (fun f hf => E f (by omega) (by omega) (by omega)), fun j => by rw [E 16 (by decide) (by decide) (by decide), E 17 (by decide) (by decide) (by decide)]; exact i4 j, ?_⟩
    · unfold RC
      rw [eo 34 (by decide), eo 37 (by decide), eo 3 (by decide), eo 39 (by decide), eo 35 (by decide), eo 36 (by decide)]
      exact h4.1
    · unfold RLn; rw [E 44 (by decide) (by decide) (by decide), E 51 (by decide) (by decide) (by decide)]; exact x2
    · rw [eo 34 (by decide)]; omega
    · rw [e0]; omega
    · rw [E 1 (by decide) (by decide) (by decide), e28]; exact x5
    · rw [E 45 (by decide) (by decide) (by decide), e28]; exact x6
    · rw [E 53 (by decide) (by decide) (by decide), e28]; exact x7
    · rw [E 54 (by decide) (by decide) (by decide), e28]; exact x8
    · intro j; rw [E 32 (by decide) (by decide) (by decide)]; exact x9 j
    · rw [e28]; exact r1
    · intro r hr
      rw [e28] at hr
      rw [E 30 (by decide) (by decide) (by decide)]; exact r2 r hr
    · intro q; rw [E 32 (by decide) (by decide) (by decide)]; exact r3 q
    · rw [e0]; omega
end INVS2
