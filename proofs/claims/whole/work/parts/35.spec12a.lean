/-! one hop: what holds before and after -/
def RX (R : RT) (n : Int) : Prop := RC R ∧ RLn R ∧ R 34 0 ≤ 10 ∧ (0 ≤ R 0 0 ∧ R 0 0 ≤ 1000000000) ∧ (0 ≤ R 1 0 ∧ R 1 0 ≤ 16 * n) ∧ (0 ≤ R 45 0 ∧ R 45 0 ≤ 2 * n) ∧ (0 ≤ R 53 0 ∧ R 53 0 ≤ n) ∧ (0 ≤ R 54 0 ∧ R 54 0 ≤ n) ∧ ∀ j, 0 ≤ R 32 j ∧ R 32 j ≤ 12
def rFd (R S : RT) : Prop := ∀ f, (f < 34 ∨ 43 < f) → f ≠ 1 → S f = R f
theorem rFd.refl {R : RT} : rFd R R := fun _ _ _ => rfl
theorem rFd.trans {R S T : RT} (h : rFd R S) (k : rFd S T) : rFd R T := fun f a b => (k f a b).trans (h f a b)
theorem rFd.Fq {R S : RT} (h : rFd R S) : Fq R S := fun f a b _ _ => h f (by omega) b
theorem rFd.u {R S : RT} {k j : Nat} {v : Int} (h : rFd R S) (hk : k = 1 ∨ (34 ≤ k ∧ k ≤ 43)) : rFd R (u2 S k j v) := fun f a b => by
  rw [← h f a b]
  funext i
  exact u2_k (by omega)
theorem rFd.Ln {R S : RT} (h : rFd R S) (x : RLn R) : RLn S := by
  unfold RLn
  rw [h 44 (by decide) (by decide), h 51 (by decide) (by decide)]
  exact x
theorem rDrops_Fd {R : RT} {i : Int} : rFd R (rDrops R i) := fun f a _ => funext fun j => rDrops_out a j
theorem rStPut_Fd {T : RT} {a f own who wch : Int} : rFd T (rStPut T a f own who wch) :=
  ((((((((((rFd.refl.u (Or.inr (by decide))).u (Or.inr (by decide))).u (Or.inr (by decide))).u (Or.inr (by decide))).u (Or.inr (by decide))).u (Or.inr (by decide))).u (Or.inr (by decide))).u (Or.inr (by decide))).u (Or.inr (by decide))).u (Or.inl rfl))
theorem rSt1_Fd {R : RT} {a w : Int} : rFd R (rSt1 R a w) := by
  have h0 : rFd R (rSt0 R a w) := by
    unfold rSt0
    split
    · exact rFd.refl.u (by decide)
    · exact rFd.refl
  exact h0.trans rStPut_Fd
theorem rSt1_1 {R : RT} {a w : Int} : rSt1 R a w 1 0 = R 1 0 + 1 := by
  show rStPut _ _ _ _ _ _ 1 0 = _
  unfold rStPut
  rw [u2_s, rSt0_out (by decide)]
theorem rEs1_I {si w : Int} : ∀ (n : Nat) (R : RT), RC R → rFd R (rEs1 si w n R) ∧ RC (rEs1 si w n R) ∧ rEs1 si w n R 34 0 ≤ R 34 0 ∧ rEs1 si w n R 1 0 = R 1 0 := by
  intro n
  induction n with
  | zero => intro R h; exact ⟨rFd.refl, h, Int.le_refl _, rfl⟩
  | succ n ih =>
    intro R h
    rw [rEs1]
    split
    · rename_i c
      obtain ⟨a, b, d, e⟩ := ih (rDrops R (rEv R 0 si w)) (rDrops_C h (rEv_c h (by omega)))
      refine ⟨rDrops_Fd.trans a, b, ?_, ?_⟩
      · rw [rDrops_34] at d; omega
      · rw [e]; exact rDrops_out (Or.inl (by decide)) 0
    · exact ⟨rFd.refl, h, Int.le_refl _, rfl⟩
theorem rEs2_I {si w : Int} : ∀ (n : Nat) (R : RT), RC R → R 34 0 ≤ n → rFd R (rEs2 si w n R) ∧ RC (rEs2 si w n R) ∧ rEs2 si w n R 34 0 ≤ 10 ∧ rEs2 si w n R 1 0 = R 1 0 := by
  intro n
  induction n with
  | zero => intro R h h2; exact ⟨rFd.refl, h, by rw [rEs2]; omega, rfl⟩
  | succ n ih =>
    intro R h h2
    rw [rEs2]
    split
    · rename_i c
      obtain ⟨a, b, d, e⟩ := ih (rDrops R (rEv R 1 si w)) (rDrops_C h (rEv_a h (by decide) (by omega))) (by rw [rDrops_34]; omega)
      refine ⟨rDrops_Fd.trans a, b, d, ?_⟩
      rw [e]; exact rDrops_out (Or.inl (by decide)) 0
    · exact ⟨rFd.refl, h, by omega, rfl⟩
theorem rE1_I {si w : Int} {R : RT} (h : RC R) : rFd R (rE1 si w R) ∧ RC (rE1 si w R) ∧ rE1 si w R 34 0 ≤ R 34 0 ∧ rE1 si w R 1 0 = R 1 0 := by
  unfold rE1
  exact rEs1_I _ R h
theorem rE2_I {si w : Int} {R : RT} (h : RC R) : rFd R (rE2 si w R) ∧ RC (rE2 si w R) ∧ rE2 si w R 34 0 ≤ 10 ∧ rE2 si w R 1 0 = R 1 0 := by
  have hh := h.1
  unfold rE2
  exact rEs2_I _ R h (by omega)
theorem rSets_I {R : RT} {a w : Int} (hA : RA R) (hD : RAd R) (hS : RS R) (hC : RC R) (h : 0 ≤ a ∧ a < R 7 0) (h10 : R 34 0 ≤ 10) : rFd R (rSets R a w) ∧ RC (rSets R a w) ∧ rSets R a w 34 0 ≤ 10 ∧ R 1 0 ≤ rSets R a w 1 0 ∧ rSets R a w 1 0 ≤ R 1 0 + 1 := by
  unfold rSets
  split
  · exact ⟨rFd.refl, hC, h10, Int.le_refl _, by omega⟩
  · rename_i c
    split
    · split
      · exact ⟨rFd.refl, hC, h10, Int.le_refl _, by omega⟩
      · rename_i c3
        have hf := rStF_in R a (rStWho R a) (rStWch R a w) (R 34 0).toNat
        have hf2 : rStFd R a w = rStF R a (rStWho R a) (rStWch R a w) (R 34 0).toNat := rfl
        have e1 : rDrops R (rStFd R a w) 1 0 = R 1 0 := rDrops_out (Or.inl (by decide)) 0
        have hc := hC.1
        exact ⟨rDrops_Fd, rDrops_C hC (by omega), by rw [rDrops_34]; omega, by omega, by omega⟩
    · have h1 := rSt1_C (w := w) hA hD hS hC h (fun z => c (Or.inl z)) h10
      obtain ⟨a1, b1, d1, e1⟩ := rE1_I (si := rSiteOf R (rStWho R a)) (w := rStWch R a w) h1
      obtain ⟨a2, b2, d2, e2⟩ := rE2_I (si := rSiteOf R (rStWho R a)) (w := rStWch R a w) b1
      have e3 := e2.trans (e1.trans rSt1_1)
      exact ⟨rSt1_Fd.trans (a1.trans a2), b2, d2, by rw [e3]; omega, by rw [e3]; omega⟩
