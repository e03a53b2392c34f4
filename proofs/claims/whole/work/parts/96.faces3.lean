/-! faces: the cookie that an address sets -/
section FACES3
variable {G G2 : GT} {B : Nat → Nat} {R T : RT}
theorem rkZ_set {a n v d w f t : Int} {r : Option Nat} (hZ : rkZ G B R) (h0 : 0 ≤ a ∧ a < R 7 0) (hn : 0 ≤ n ∧ n ≤ 9) (hv : -1 ≤ v ∧ v ≤ 999) (hd : -1 ≤ d ∧ d < R 3 0) (hw : 0 ≤ w ∧ w ≤ 999) (hf : InR f) (ht : -1 ≤ t ∧ t ≤ 1000) (hT : ∀ k : Nat, k < 61 → T k = R k) (hr : ∀ k j, InR (T k j)) (hF : rkFr [] [] G G2)
    (hl : (v = -1 ∧ r = none) ∨ (v ≠ -1 ∧ ∃ c, r = some c ∧ gK G2 c = 6 ∧ gI G2 600 c = n ∧ gI G2 601 c = v ∧ gP G2 602 c = rkOp G (B 1) d ∧ gI G2 603 c = w ∧ gI G2 604 c = f ∧ gI G2 605 c = t)) : rkZ (sP G2 312 (rkAt G (B 2) a) r) B (u2 (u2 (u2 (u2 (u2 (u2 T 18 a.toNat n) 19 a.toNat v) 20 a.toNat d) 21 a.toNat w) 22 a.toNat f) 23 a.toNat t) := by
  have hW := hZ.1
  obtain ⟨hB, hH, hA, hP, iH, iA, iAd, iHl, iP, iS, -, iU⟩ := id hW
  have h3 := iH.1
  obtain ⟨o, tx, ⟨c1, c2, c3, c4, c5, c6⟩, ln⟩ := hA.2 a h0.1 h0.2
  have ha : gK G (rkAt G (B 2) a) ≠ 0 := by rw [o.1]; decide
  have l1 : gL (sP G2 312 (rkAt G (B 2) a) r) (B 1) = gL G (B 1) := hF.2.2.1 (B 1) (by rw [hB.2.1.1]; decide) List.not_mem_nil
  have eo : ∀ k : Nat, k < 61 → k < 18 ∨ 23 < k → u2 (u2 (u2 (u2 (u2 (u2 T 18 a.toNat n) 19 a.toNat v) 20 a.toNat d) 21 a.toNat w) 22 a.toNat f) 23 a.toNat t k = R k := fun k f1 f2 => by
    funext j
    rw [u2_k (by omega), u2_k (by omega), u2_k (by omega), u2_k (by omega), u2_k (by omega), u2_k (by omega), hT k f1]
  have ej : ∀ k j : Nat, k < 61 → j ≠ a.toNat → u2 (u2 (u2 (u2 (u2 (u2 T 18 a.toNat n) 19 a.toNat v) 20 a.toNat d) 21 a.toNat w) 22 a.toNat f) 23 a.toNat t k j = R k j := fun k j f1 jn => by
    rw [u2_a jn, u2_a jn, u2_a jn, u2_a jn, u2_a jn, u2_a jn, hT k f1]
  have e18 : u2 (u2 (u2 (u2 (u2 (u2 T 18 a.toNat n) 19 a.toNat v) 20 a.toNat d) 21 a.toNat w) 22 a.toNat f) 23 a.toNat t 18 a.toNat = n := by rw [u2_k (by decide), u2_k (by decide), u2_k (by decide), u2_k (by decide), u2_k (by decide), u2_s]
  have e19 : u2 (u2 (u2 (u2 (u2 (u2 T 18 a.toNat n) 19 a.toNat v) 20 a.toNat d) 21 a.toNat w) 22 a.toNat f) 23 a.toNat t 19 a.toNat = v := by rw [u2_k (by decide), u2_k (by decide), u2_k (by decide), u2_k (by decide), u2_s]
  have e20 : u2 (u2 (u2 (u2 (u2 (u2 T 18 a.toNat n) 19 a.toNat v) 20 a.toNat d) 21 a.toNat w) 22 a.toNat f) 23 a.toNat t 20 a.toNat = d := by rw [u2_k (by decide), u2_k (by decide), u2_k (by decide), u2_s]
  have e21 : u2 (u2 (u2 (u2 (u2 (u2 T 18 a.toNat n) 19 a.toNat v) 20 a.toNat d) 21 a.toNat w) 22 a.toNat f) 23 a.toNat t 21 a.toNat = w := by rw [u2_k (by decide), u2_k (by decide), u2_s]
  have e22 : u2 (u2 (u2 (u2 (u2 (u2 T 18 a.toNat n) 19 a.toNat v) 20 a.toNat d) 21 a.toNat w) 22 a.toNat f) 23 a.toNat t 22 a.toNat = f := by rw [u2_k (by decide), u2_s]
  have e23 : u2 (u2 (u2 (u2 (u2 (u2 T 18 a.toNat n) 19 a.toNat v) 20 a.toNat d) 21 a.toNat w) 22 a.toNat f) 23 a.toNat t 23 a.toNat = t := u2_s
  have hrr := InR_u (f := 23) (i := a.toNat) (InR_u (f := 22) (i := a.toNat) (InR_u (f := 21) (i := a.toNat) (InR_u (f := 20) (i := a.toNat) (InR_u (f := 19) (i := a.toNat) (InR_u (f := 18) (i := a.toNat) hr (v := n) ⟨by omega, by omega⟩) (v := v) ⟨by omega, by omega⟩) (v := d) ⟨by omega, by omega⟩) (v := w) ⟨by omega, by omega⟩) hf) (v := t) ⟨by omega, by omega⟩
  generalize hSd : u2 (u2 (u2 (u2 (u2 (u2 T 18 a.toNat n) 19 a.toNat v) 20 a.toNat d) 21 a.toNat w) 22 a.toNat f) 23 a.toNat t = S at *
  have hW' : rkW (sP G2 312 (rkAt G (B 2) a) r) B S := by
    refine rkW_addr hW h0 hF.1 (fun x hx => hF.2.2.1 x hx List.not_mem_nil) (fun k x hx hne => ⟨(hF.2.1 k x hx List.not_mem_nil).1, ?_⟩) (fun k hk => ⟨(hF.2.1 k _ ha List.not_mem_nil).1, ?_⟩) (fun k f1 f2 f3 => eo k (by omega) (by omega)) (fun k j f1 jn => ej k j (by omega) jn) ⟨⟨?_, ?_, ?_, ?_, ?_, ?_⟩, ?_⟩ ?_ ?_ hrr
    · rw [rk_PP, u2_a hne]
      exact (hF.2.1 k x hx List.not_mem_nil).2
    · rw [rk_PP, u2_k (by omega)]
      exact (hF.2.1 k _ ha List.not_mem_nil).2
    · rw [eo 12 (by decide) (by decide), rk_PP, u2_k (by decide)]
      exact (hF.2.1 306 _ ha List.not_mem_nil).2.trans c1
    · rw [eo 13 (by decide) (by decide)]
      exact (hF.2.1 307 _ ha List.not_mem_nil).1.trans c2
    · have e : rkAll S a = rkAll R a := by
        unfold rkAll
        rw [eo 14 (by decide) (by decide), rkOrg_eq (fun k f1 f2 => eo k (by omega) (by omega))]
      rw [e]
      exact (hF.2.1 308 _ ha List.not_mem_nil).1.trans c3
    · rw [eo 15 (by decide) (by decide)]
      exact (hF.2.1 309 _ ha List.not_mem_nil).1.trans c4
    · rw [eo 16 (by decide) (by decide)]
      exact (hF.2.1 310 _ ha List.not_mem_nil).1.trans c5
    · rw [eo 17 (by decide) (by decide)]
      exact (hF.2.1 311 _ ha List.not_mem_nil).1.trans c6
    · rw [e19, rk_PP, u2_s]
      rcases hl with ⟨q1, q2⟩ | ⟨q1, c, q2, z1, z2, z3, z4, z5, z6, z7⟩
      · exact Or.inl ⟨q1, q2⟩
      · refine Or.inr ⟨q1, c, q2, ?_⟩
        unfold rkLn
        rw [rkOp_same l1, e18, e19, e20, e21, e22, e23, rk_PP, u2_k (by decide)]
        exact ⟨z1, z2, z3, z4, z5, z6, z7⟩
    · intro i hi
      rw [eo 7 (by decide) (by decide)] at hi
      obtain ⟨d1, d2, d3, d4, d5, d6, d7, d8⟩ := iAd i hi
      rw [eo 7 (by decide) (by decide), eo 3 (by decide) (by decide), eo 8 (by decide) (by decide), eo 9 (by decide) (by decide), eo 10 (by decide) (by decide), eo 11 (by decide) (by decide), eo 12 (by decide) (by decide), eo 13 (by decide) (by decide), eo 14 (by decide) (by decide)]
      by_cases ci : i = a.toNat
      · rw [ci, e20]
        rw [ci] at d1 d2 d3 d4 d5 d6 d7
        exact ⟨d1, d2, d3, d4, d5, d6, d7, hd⟩
      · rw [ej 20 i (by decide) ci]
        exact ⟨d1, d2, d3, d4, d5, d6, d7, d8⟩
    · intro i hi
      rw [eo 7 (by decide) (by decide)] at hi
      by_cases ci : i = a.toNat
      · rw [ci, e18, e19, e21, e23]
        exact ⟨hn, hv, hw, ht⟩
      · rw [ej 18 i (by decide) ci, ej 19 i (by decide) ci, ej 21 i (by decide) ci, ej 23 i (by decide) ci]
        exact iS i hi
  exact rkZ_face hZ hW' (ks := [312]) (ls := []) (fr_sP (by decide) (by decide) (fr_wide hF (fun k z => by cases z) (fun k z => z))) (by decide) ⟨List.not_mem_nil, List.not_mem_nil, List.not_mem_nil, List.not_mem_nil, List.not_mem_nil⟩ (fun k hk => eo k (by omega) (by omega))
end FACES3
