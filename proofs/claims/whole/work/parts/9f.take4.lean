/-! a hop's outcome -/
def rkTo (G G' : GT) (B : Nat → Nat) (R : RT) (rq ch : Nat) (L0 : List Nat) (cr a k : Int) (v : Option Value) : Prop :=
  ∃ (hp : Nat) (m t : Int) (S : RT), v = some (va_rf (if t = -1 then some (rkAt G' (B 2) (S 12 m.toNat)) else none)) ∧ rkTe G G' B R S rq ch hp L0 (6 * R 28 0 + k) m ∧ gK G hp = 0 ∧ (0 ≤ m ∧ m < R 7 0) ∧
  ((rMix R a = -1 ∧ m = a ∧ t = 2 ∧ S = rRec R a (6 * R 28 0 + k) ∧ rkMx R (R 62 0) m (R 61 0) = true) ∨
   (rMix R a = m ∧ t = rDoes (rG1 R a k) m ∧ S = rG2 R a k ∧ rkMx R (R 62 0) m (R 61 0) = false ∧
    ((gI G' 709 hp = 1 ∧ t = 5) ∨ (gI G' 709 hp = 0 ∧ gI G' 710 hp = 0 ∧ t = 3) ∨ (gI G' 709 hp = 0 ∧ gI G' 710 hp = 1 ∧ gI G' 711 hp = 0 ∧ t = (if R 62 0 = 0 ∧ ¬ rWas (rG1 R a k) m = 0 then 1 else 0)) ∨ (gI G' 709 hp = 0 ∧ gI G' 710 hp = 1 ∧ gI G' 711 hp = 1 ∧ t = -1 ∧ rkRq G' B rq (S 61 0) (S 62 0) cr (S 65 0) (rHow S m) (rTnt S m) (S 68 0)))))
section TAKE4
variable {L0 : List Nat} {G0 G G' : GT} {B : Nat → Nat} {R T0 S : RT} {rq ch hp ar : Nat} {cr a k m q n : Int}
theorem rkUm_in (h0 : 0 ≤ a ∧ a < R 7 0) : 0 ≤ rkUm R (R 62 0) a (R 61 0) ∧ rkUm R (R 62 0) a (R 61 0) < R 7 0 := by
  have f := rFind_in R 1 (R 9 a.toNat) (R 10 a.toNat) (R 11 a.toNat) (R 7 0).toNat
  have e : rFnd R 1 (R 9 a.toNat) (R 10 a.toNat) (R 11 a.toNat) = rFind R 1 (R 9 a.toNat) (R 10 a.toNat) (R 11 a.toNat) (R 7 0).toNat := rfl
  unfold rkUm
  split
  · rename_i c
    have := c.2.2
    omega
  · exact h0
theorem rFind_8 {u w x y : Int} : ∀ n : Nat, ¬ rFind R u w x y n = -1 → R 8 (rFind R u w x y n).toNat = u := by
  intro n
  induction n with
  | zero => intro h; exact absurd rfl h
  | succ n ih =>
    unfold rFind
    intro h
    split at h
    · rename_i c
      rw [if_pos c]
      have c2 : R 8 n = u ∧ R 9 n = w ∧ R 10 n = x ∧ R 11 n = y := by simpa using c
      exact c2.1
    · rename_i c
      rw [if_neg c]
      exact ih h
theorem rkMx_F (h : Fs R S) (h61 : S 61 0 = R 61 0) (h62 : S 62 0 = R 62 0) : rkMx S (S 62 0) m (S 61 0) = rkMx R (R 62 0) m (R 61 0) := by
  unfold rkMx
  rw [h61, h62, h 25 (by decide) (by decide), h 8 (by decide) (by decide)]
theorem rCross_F (h : Fs R S) (h61 : S 61 0 = R 61 0) (h67 : S 67 0 = R 67 0) : rCross S m = rCross R m := by
  unfold rCross rFrom
  rw [h61, h67, h.same, h 25 (by decide) (by decide)]
theorem rkCr_x : rkCr R (R 67 0) m (R 61 0) = rCross R m := Bool.or_comm _ _
theorem rUsed_x (h : Fq R S) (h63 : R 63 0 = bI (decide (cr = 2))) (h64 : cr = 2 ∨ R 64 0 = bI (decide (cr = 1))) : rkUse S cr (S 67 0) m (S 61 0) = rUsed R m := by
  unfold rkUse rUsed
  rw [rkCr_x, rCross_F h.Fs (congrFun (h 61 (by decide) (by decide) (by decide) (by decide)) 0) (congrFun (h 67 (by decide) (by decide) (by decide) (by decide)) 0), h63]
  have e : ∀ P : Prop, [Decidable P] → decide (¬ bI (decide P) = 0) = decide P := fun P _ => by
    by_cases c : P
    · rw [decide_eq_true c]; rfl
    · rw [decide_eq_false c]; rfl
  rw [e]
  rcases h64 with h64 | h64
  · rw [decide_eq_true h64]; rfl
  · rw [h64, e]
theorem rDoes_5 (h : rStops T0 m = true) : rDoes T0 m = 5 := if_pos h
theorem rDoesR_5 (h : rStops T0 m = true) : rDoesR T0 m q = rD3 T0 m := if_pos h
theorem rDoesR_n (h : rStops T0 m = false) : rDoesR T0 m q = rD5 T0 m q := if_neg (by rw [h]; decide)
theorem rDoes_3 (h : rStops T0 m = false) (h2 : (decide (T0 62 0 = 1) && rCross T0 m) = true) (h3 : rLets T0 m = false) : rDoes T0 m = 3 := by
  unfold rDoes
  rw [if_neg (by rw [h]; decide)]
  rw [Bool.and_eq_true] at h2
  rw [h2.1, h2.2, h3]
  exact if_pos rfl
theorem rDoes_n (h : rStops T0 m = false) (h2 : (!((decide (T0 62 0 = 1) && rCross T0 m) && !rLets T0 m)) = true) : rDoes T0 m = if T0 12 m.toNat = -1 then (if T0 62 0 = 0 ∧ ¬ rWas T0 m = 0 then 1 else 0) else -1 := by
  unfold rDoes
  rw [if_neg (by rw [h]; decide), if_neg]
  intro z
  rw [Bool.and_assoc, z] at h2
  cases h2
theorem rG_eq (hq : q = 6 * R 28 0 + k) (hRA : T0 = rRec R m q) (hm : rMix R a = m) : rG1 R a k = T0 ∧ rG2 R a k = rDoesR T0 m q := by
  have e : rG1 R a k = T0 := by
    unfold rG1
    rw [hm, ← hq, hRA]
  refine ⟨e, ?_⟩
  unfold rG2
  rw [e, hm, ← hq]
theorem rD5_o (hX : RX T0 n) (hH : RH T0) (hA : RA T0) (hD : RAd T0) (hS : RS T0) (hm : 0 ≤ m ∧ m < T0 7 0) (h32 : T0 32 q.toNat = 0) : Fq T0 (rD5 T0 m q) ∧ (0 ≤ rD5 T0 m q 32 q.toNat ∧ rD5 T0 m q 32 q.toNat ≤ 10) := by
  refine ⟨(rD5_I hH hA hD hS hX hm h32).1, ?_⟩
  have e32 : rD4 T0 m 32 = T0 32 := rD4_x hX (by decide) (by decide) (by decide) (by decide)
  have e34 : rD4 T0 m 34 = T0 34 := rD4_x hX (by decide) (by decide) (by decide) (by decide)
  obtain ⟨g1, -, g3, -⟩ := rD4_I (a := m) hX
  obtain ⟨x1, x2, x3, x4, x5, -⟩ := hX
  unfold rD5
  split
  · have s := rSends_I (R := rD4 T0 m) (a := m) (w := rWhere T0 m) (q := q) (by rw [e32]; exact h32) (by omega) (by have := g1.1; omega)
    have sF : Fs T0 (rSends (rD4 T0 m) m (rWhere T0 m) q) := rD4_Fq.Fs.trans s.Fs
    have t := rSets_I (R := rSends (rD4 T0 m) m (rWhere T0 m) q) (a := m) (w := rWhere T0 m) (sF.A hA) (sF.Ad hD) (sF.S hS) (s.C g1) (by rw [sF 7 (by decide) (by decide)]; exact hm) (by rw [s.1 34 (by decide) (by decide) (by decide) (by decide), e34]; exact x3)
    rw [t.1 32 (by decide) (by decide)]
    have := s.2.1
    rw [e34] at this
    omega
  · rw [e32, h32]
    omega
theorem rkX_f {X b : Bool} (h : (!(X && !b)) = false) : X = true ∧ b = false := by
  cases X <;> cases b <;> simp_all
theorem rkTe_R {T : RT} (h : rkTe G0 G B R S rq ch hp L0 q m) (hT : ∀ f : Nat, f < 30 ∨ (31 ≤ f ∧ f ≤ 60) → T f = S f) (hr : ∀ k j, InR (T k j)) : rkTe G0 G B R T rq ch hp L0 q m := by
  obtain ⟨z, f, p, c, d⟩ := h
  exact ⟨rkZ_R z (fun f hf => hT f (by omega)) hr, f, rkHp_fr z.1.1 p (fr_rfl (ks := []) (ls := [])) (fun k z => by cases z) List.not_mem_nil (by rw [hT 7 (by decide)]; exact Int.le_refl _) ⟨by rw [hT 31 (by decide)], by rw [hT 32 (by decide)], fun j _ _ => by rw [hT 33 (by decide)]⟩, c, d⟩
theorem rkT_mix (hRA : T0 = rRec R m q) (hr : ∀ k j, InR (T0 k j)) (h : rkT G0 G B (rD2 T0 m) rq ch hp ar L0 cr m q) (hm : 0 ≤ m ∧ m < T0 7 0) (h32 : T0 32 q.toNat = 0) (e67 : T0 67 0 = R 67 0) : rkTe G0 G B R (rRec R m q) rq ch hp L0 q m := by
  rw [← hRA]
  refine rkTe_R (rkT_end h hm ?_ ?_) (fun f hf => (rkD2_f (by omega) (by omega)).symm) hr
  · rw [rkD2_f (by decide) (by decide), h32]; omega
  · rw [rkD2_f (by decide) (by decide)]; exact e67
end TAKE4
