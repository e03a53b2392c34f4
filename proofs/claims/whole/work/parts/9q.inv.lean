/-! what holds between the calls of the law, and that each call keeps it -/
def rkInv (R : RT) (n : Int) : Prop := RX R (6 * R 28 0) ∧ RR R ∧ rkE0 R ∧ (∀ j : Nat, (0 ≤ R 16 j ∧ R 16 j ≤ 3) ∧ (0 ≤ R 17 j ∧ R 17 j ≤ 1000)) ∧ R 0 0 ≤ 1000 * n
def rkRel (G : GT) (B : Nat → Nat) (n : Int) (R' : RT) (G1 : GT) : Prop := rkKp B G G1 ∧ rkZ G1 B R' ∧ rkPs G1 B R' ∧ rkInv R' n
section INVS
variable {ks ls : List Nat} {G G' G1 : GT} {B : Nat → Nat} {R S T : RT} {n a b c w t : Int} {q : Nat}
theorem rkInv_rows (h : rkInv R n) (hS : ∀ f : Nat, f = 0 ∨ f = 1 ∨ (28 ≤ f ∧ f ≤ 60) → S f = R f) (h3 : R 3 0 ≤ S 3 0) (hE : rkE0 S) (hO : ∀ j : Nat, (0 ≤ S 16 j ∧ S 16 j ≤ 3) ∧ (0 ≤ S 17 j ∧ S 17 j ≤ 1000)) : rkInv S (n + 1) := by
  obtain ⟨⟨⟨x1, x1'⟩, x2, x3, x4, x5, x6, x7, x8, x9⟩, ⟨r1, r2, r3⟩, -, -, h0⟩ := h
  have e0 := hS 0 (by omega)
  have e1 := hS 1 (by omega)
  have e28 := hS 28 (by omega)
  refine ⟨⟨⟨?_, fun j hj => ?_⟩, ?_, ?_, ?_, ?_, ?_, ?_, ?_, fun j => ?_⟩, ⟨?_, fun r hr => ?_, fun q => ?_⟩, hE, hO, ?_⟩
  · rw [hS 34 (by omega)]; exact x1
  · rw [hS 34 (by omega)] at hj
    rw [hS 37 (by omega), hS 39 (by omega), hS 35 (by omega), hS 36 (by omega)]
    obtain ⟨y1, y2⟩ := x1' j hj
    exact ⟨⟨y1.1, by omega⟩, y2⟩
  · unfold RLn; rw [hS 44 (by omega), hS 51 (by omega)]; exact x2
  · rw [hS 34 (by omega)]; exact x3
  · rw [e0]; exact x4
  · rw [e1, e28]; exact x5
  · rw [hS 45 (by omega), e28]; exact x6
  · rw [hS 53 (by omega), e28]; exact x7
  · rw [hS 54 (by omega), e28]; exact x8
  · rw [hS 32 (by omega)]; exact x9 j
  · rw [e28]; exact r1
  · rw [e28] at hr
    rw [hS 30 (by omega)]; exact r2 r hr
  · rw [hS 32 (by omega)]; exact r3 q
  · rw [e0]; omega
theorem rkE0_rows (h : rkE0 R) (hS : ∀ f : Nat, f = 3 ∨ f = 6 ∨ f = 7 ∨ f = 13 ∨ (15 ≤ f ∧ f ≤ 18) ∨ (20 ≤ f ∧ f ≤ 23) → S f = R f) : rkE0 S := by
  refine ⟨fun f j hf hj => ?_, fun j hj => ?_⟩
  · rw [hS 7 (by omega)] at hj
    rw [hS f (by omega)]; exact h.1 f j hf hj
  · rw [hS 3 (by omega)] at hj
    rw [hS 6 (by omega)]; exact h.2 j hj
theorem rkInv_all (h : rkInv R n) (hS : ∀ f : Nat, f < 61 → S f = R f) : rkInv S (n + 1) :=
  rkInv_rows h (fun f hf => hS f (by omega)) (by rw [hS 3 (by decide)]; exact Int.le_refl _) (rkE0_rows h.2.2.1 (fun f hf => hS f (by omega))) (fun j => by rw [hS 16 (by decide), hS 17 (by decide)]; exact h.2.2.2.1 j)
theorem rkPs_s (hZ : rkZ G B R) (hp : rkPs G B R) (h : rkKp B G G') (h2 : gL G' (B 2) = gL G (B 2)) (h3 : gL G' (B 3) = gL G (B 3)) (h4 : gL G' (B 4) = gL G (B 4)) (hS : ∀ f : Nat, f = 7 ∨ f = 8 ∨ f = 9 ∨ f = 10 ∨ f = 24 ∨ f = 25 ∨ (28 ≤ f ∧ f ≤ 33) → S f = R f) : rkPs G' B S :=
  rkPs_k hp hZ.1.2.2.2.2.2.2.2.2.1 h h4 (fun i _ _ => rkAt_same h2 i) (fun i _ _ => rkAt_same h3 i) (by rw [hS 7 (by omega)]; exact Int.le_refl _) (by rw [hS 24 (by omega)]; exact Int.le_refl _) (fun j _ => by rw [hS 25 (by omega)]) (fun j _ => ⟨by rw [hS 8 (by omega)], by rw [hS 9 (by omega)], by rw [hS 10 (by omega)]⟩) (fun f f1 f2 => hS f (by omega))
/-- nothing but other rows change -/
theorem rkRel_o (hZ : rkZ G B R) (hp : rkPs G B R) (hI : rkInv R n) (hS : ∀ f : Nat, f < 61 → S f = R f) (hr : ∀ k j, InR (S k j)) : rkRel G B (n + 1) S G :=
  ⟨rkKp_rfl, rkZ_R hZ (fun f hf => hS f (by omega)) hr, rkPs_s hZ hp rkKp_rfl rfl rfl rfl (fun f hf => hS f (by omega)), rkInv_all hI hS⟩
theorem rkInR (hZ : rkZ G B R) : ∀ k j, InR (R k j) := hZ.1.2.2.2.2.2.2.2.2.2.2.1
theorem rF_o {f : Nat} (h : f ≠ 71) : rF R c f = R f := funext fun j => by unfold rF; exact u2_k h
theorem rF_71 : rF R c 71 0 = c := u2_s
theorem rkRel_F (hZ : rkZ G B R) (hp : rkPs G B R) (hI : rkInv R n) (hc : InR c) : rkRel G B (n + 1) (rF R c) G := rkRel_o hZ hp hI (fun f hf => rF_o (by omega)) (InR_u (rkInR hZ) hc)
/-- host -/
theorem lf_host (hZ : rkZ G B R) (hp : rkPs G B R) (hI : rkInv R n) : rHostR R a w 71 0 = rHCode R a w ∧ (¬ rHCode R a w = 0 → rkRel G B (n + 1) (rHostR R a w) G) ∧ ∀ G', (rHCode R a w = 0 ∧ ((G' = G ∧ ¬ rHFound R a w = -1) ∨ (rHFound R a w = -1 ∧ ∃ q, gK G q = 0 ∧ G' = rkNewH G B R a w q))) → rkRel G B (n + 1) (rHostR R a w) G' := by
  have hc := rHCode_in R a w
  refine ⟨?_, fun h0 => ?_, fun G' hh => ?_⟩
  · unfold rHostR
    split
    · exact rF_71
    · split
      · rw [u2_k (by decide), u2_k (by decide), u2_k (by decide)]; exact rF_71
      · exact rF_71
  · have e : rHostR R a w = rF R (rHCode R a w) := if_pos (by omega)
    rw [e]
    exact rkRel_F hZ hp hI ⟨by omega, by omega⟩
  · obtain ⟨h0, h1⟩ := hh
    rcases h1 with ⟨rfl, h2⟩ | ⟨h2, q, h3, rfl⟩
    · have e : rHostR R a w = rF R (rHCode R a w) := by unfold rHostR; rw [if_neg (by omega), if_neg h2]
      rw [e]
      exact rkRel_F hZ hp hI ⟨by omega, by omega⟩
    · have e : rHostR R a w = u2 (u2 (u2 (rF R (rHCode R a w)) 4 (R 3 0).toNat a) 5 (R 3 0).toNat w) 3 0 (R 3 0 + 1) := by unfold rHostR; rw [if_neg (by omega), if_pos h2]
      have hh := hZ.1.2.2.2.2.1.1
      have h0' := h0
      unfold rHCode at h0'
      by_cases c1 : rHIs R a = false
      · rw [if_pos c1] at h0'; cases h0'
      · rw [if_neg c1] at h0'
        have d1 := rHIs_t.mp (show rHIs R a = true by cases hx : rHIs R a; exact absurd hx c1; rfl)
        by_cases c2 : rLies w 0 701 = false
        · rw [if_pos c2] at h0'; cases h0'
        · rw [if_neg c2] at h0'
          have d2 := rLs_t.mp (show rLies w 0 701 = true by cases hx : rLies w 0 701; exact absurd hx c2; rfl)
          by_cases c3 : rHFound R a w = -1 ∧ (R 3 0 = 16 ∨ 3 < rDep R a)
          · rw [if_pos c3] at h0'; cases h0'
          · have c4 : R 3 0 < 16 := by have := fun z => c3 ⟨h2, Or.inl z⟩; omega
            have hno : rHostOf R a w (R 3 0).toNat = -1 := by rw [← rHF d1 d2]; exact h2
            rw [e]
            have z := rkZ_host (T := rF R (rHCode R a w)) hZ (by omega) d2 c4 hno hI.2.2.1 h3 (fun k hk => rF_o (by omega)) (InR_u (rkInR hZ) ⟨by omega, by omega⟩)
            obtain ⟨n12, n13, n14, n15, n18, n19, n23, n24, n25, n28, n29, n34, n35, n38, n39, n45, n48, n49, n58, n59, n89⟩ := hZ.1.1.2.2.2
            have hfr : rkFr [] [B 1] G (rkNewH G B R a w q) := fr_sL List.mem_cons_self (fr_sIq h3 (fr_sIq h3 (fr_sPq h3 (by decide) (fr_sIq h3 (fr_nO h3 (by decide) fr_rfl)))))
            have kp : rkKp B G (rkNewH G B R a w q) := rkKp_fr hfr (fun k z => by cases z) (fun x z => Or.inr ⟨1, by decide, List.mem_singleton.mp z⟩)
            have E : ∀ f : Nat, f < 61 → f < 3 ∨ 5 < f → u2 (u2 (u2 (rF R (rHCode R a w)) 4 (R 3 0).toNat a) 5 (R 3 0).toNat w) 3 0 (R 3 0 + 1) f = R f := fun f f1 f2 => by
              funext j
              rw [u2_k (by omega), u2_k (by omega), u2_k (by omega), rF_o (by omega)]
            refine ⟨kp, z, rkPs_s hZ hp kp (sL_n n12.symm) (sL_n n13.symm) (sL_n n14.symm) (fun f hf => E f (by omega) (by omega)), rkInv_rows hI (fun f hf => E f (by omega) (by omega)) (by rw [u2_s]; omega) ⟨fun f j hf hj => ?_, fun j hj => ?_⟩ (fun j => by rw [E 16 (by decide) (by decide), E 17 (by decide) (by decide)]; exact hI.2.2.2.1 j)⟩
            · rw [E 7 (by decide) (by decide)] at hj
              rw [E f (by omega) (by omega)]; exact hI.2.2.1.1 f j hf hj
            · rw [u2_s] at hj
              rw [E 6 (by decide) (by decide)]; exact hI.2.2.1.2 j (by omega)
/-- toggleSuffix -/
theorem lf_suf (hZ : rkZ G B R) (hp : rkPs G B R) (hI : rkInv R n) : rTogR R a 71 0 = rTogC R a ∧ (¬ rTogC R a = 0 → rkRel G B (n + 1) (rTogR R a) G) ∧ ∀ G', (rTogC R a = 0 ∧ G' = sI G 804 (rkAt G (B 1) a) (rTog R a)) → rkRel G B (n + 1) (rTogR R a) G' := by
  have hc : rTogC R a = 0 ∨ rTogC R a = 1 := by unfold rTogC; split <;> simp
  refine ⟨?_, fun h0 => ?_, fun G' hh => ?_⟩
  · unfold rTogR
    split
    · exact rF_71
    · rw [u2_k (by decide)]; exact rF_71
  · have e : rTogR R a = rF R (rTogC R a) := if_pos (by omega)
    rw [e]
    exact rkRel_F hZ hp hI ⟨by omega, by omega⟩
  · obtain ⟨h0, rfl⟩ := hh
    have d : 0 ≤ a ∧ a ≤ R 3 0 - 1 := by
      unfold rTogC at h0
      by_cases c : rIsHost R a = true
      · exact rIsH_t.mp c
      · rw [if_neg c] at h0; cases h0
    have e1 : rTog R a = if R 6 a.toNat = 0 then 1 else 0 := by unfold rTog; rw [if_neg (by omega)]
    have e : rTogR R a = u2 (rF R (rTogC R a)) 6 a.toNat (rTog R a) := by unfold rTogR; rw [if_neg (by omega), e1]
    have v01 : InR (rTog R a) := by rw [e1]; split <;> exact ⟨by decide, by decide⟩
    rw [e]
    have E : ∀ f : Nat, f < 61 → f ≠ 6 → u2 (rF R (rTogC R a)) 6 a.toNat (rTog R a) f = R f := fun f f1 f2 => by
      funext j
      rw [u2_k f2, rF_o (by omega)]
    have hfr : rkFr [804] [] G (sI G 804 (rkAt G (B 1) a) (rTog R a)) := fr_sI (by decide) (by decide) fr_rfl
    have kp : rkKp B G (sI G 804 (rkAt G (B 1) a) (rTog R a)) := rkKp_fr hfr (by decide) (fun x z => by cases z)
    refine ⟨kp, rkZ_suf (T := rF R (rTogC R a)) hZ ⟨d.1, by omega⟩ v01 (fun k hk => rF_o (by omega)) (InR_u (rkInR hZ) ⟨by omega, by omega⟩), rkPs_s hZ hp kp rfl rfl rfl (fun f hf => E f (by omega) (by omega)), rkInv_rows hI (fun f hf => E f (by omega) (by omega)) (by rw [E 3 (by decide) (by decide)]; exact Int.le_refl _) ⟨fun f j hf hj => ?_, fun j hj => ?_⟩ (fun j => by rw [E 16 (by decide) (by decide), E 17 (by decide) (by decide)]; exact hI.2.2.2.1 j)⟩
    · rw [E 7 (by decide) (by decide)] at hj
      rw [E f (by omega) (by omega)]; exact hI.2.2.1.1 f j hf hj
    · rw [E 3 (by decide) (by decide)] at hj
      rw [u2_a (by omega), rF_o (by decide)]; exact hI.2.2.1.2 j hj
/-- redirect -/
theorem lf_red (hZ : rkZ G B R) (hp : rkPs G B R) (hI : rkInv R n) : rRedR R a b c 71 0 = rRedC R a b c ∧ (¬ rRedC R a b c = 0 → rkRel G B (n + 1) (rRedR R a b c) G) ∧ ∀ G', (rRedC R a b c = 0 ∧ G' = sI (sP G 306 (rkAt G (B 2) a) (rkOp G (B 2) b)) 307 (rkAt G (B 2) a) c) → rkRel G B (n + 1) (rRedR R a b c) G' := by
  have hc : rRedC R a b c = 0 ∨ rRedC R a b c = 1 ∨ rRedC R a b c = 2 := by unfold rRedC; split; simp; split <;> simp
  refine ⟨?_, fun h0 => ?_, fun G' hh => ?_⟩
  · unfold rRedR
    split
    · exact rF_71
    · rw [u2_k (by decide), u2_k (by decide)]; exact rF_71
  · have e : rRedR R a b c = rF R (rRedC R a b c) := if_pos (by omega)
    rw [e]
    exact rkRel_F hZ hp hI ⟨by omega, by omega⟩
  · obtain ⟨h0, rfl⟩ := hh
    have h0' := h0
    unfold rRedC at h0'
    by_cases c1 : rRedIs R a b = false
    · rw [if_pos c1] at h0'; cases h0'
    · rw [if_neg c1] at h0'
      have d1 := rRedIs_t.mp (show rRedIs R a b = true by cases hx : rRedIs R a b; exact absurd hx c1; rfl)
      by_cases c2 : rLies c 0 4 = true
      · have d2 := rLs_t.mp c2
        have e : rRedR R a b c = u2 (u2 (rF R (rRedC R a b c)) 12 a.toNat b) 13 a.toNat c := if_neg (by omega)
        rw [e]
        have E : ∀ f : Nat, f < 61 → f ≠ 12 → f ≠ 13 → u2 (u2 (rF R (rRedC R a b c)) 12 a.toNat b) 13 a.toNat c f = R f := fun f f1 f2 f3 => by
          funext j
          rw [u2_k f3, u2_k f2, rF_o (by omega)]
        have hfr : rkFr [306, 307] [] G (sI (sP G 306 (rkAt G (B 2) a) (rkOp G (B 2) b)) 307 (rkAt G (B 2) a) c) := fr_sI (by decide) (by decide) (fr_sP (by decide) (by decide) fr_rfl)
        have kp : rkKp B G (sI (sP G 306 (rkAt G (B 2) a) (rkOp G (B 2) b)) 307 (rkAt G (B 2) a) c) := rkKp_fr hfr (by decide) (fun x z => by cases z)
        refine ⟨kp, rkZ_red (T := rF R (rRedC R a b c)) hZ ⟨by omega, by omega⟩ (by omega) d2 (fun k hk => rF_o (by omega)) (InR_u (rkInR hZ) ⟨by omega, by omega⟩), rkPs_s hZ hp kp rfl rfl rfl (fun f hf => E f (by omega) (by omega) (by omega)), rkInv_rows hI (fun f hf => E f (by omega) (by omega) (by omega)) (by rw [E 3 (by decide) (by decide) (by decide)]; exact Int.le_refl _) ⟨fun f j hf hj => ?_, fun j hj => ?_⟩ (fun j => by rw [E 16 (by decide) (by decide) (by decide), E 17 (by decide) (by decide) (by decide)]; exact hI.2.2.2.1 j)⟩
        · rw [E 7 (by decide) (by decide) (by decide)] at hj
          by_cases f13 : f = 13
          · rw [f13, u2_a (by omega), u2_k (by decide), rF_o (by decide)]; exact hI.2.2.1.1 13 j (by omega) hj
          · rw [E f (by omega) (by omega) (by omega)]; exact hI.2.2.1.1 f j hf hj
        · rw [E 3 (by decide) (by decide) (by decide)] at hj
          rw [E 6 (by decide) (by decide) (by decide)]; exact hI.2.2.1.2 j hj
      · rw [if_neg c2] at h0'; cases h0'
end INVS
