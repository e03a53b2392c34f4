/-! what a hop's cookies do to the reference's rows, and the frame -/
def Fs (R S : RT) : Prop := ∀ f, f < 28 → f ≠ 1 → S f = R f
theorem Fs.H {R S : RT} (h : Fs R S) (x : RH R) : RH S := by
  unfold RH
  rw [h 3 (by decide) (by decide), h 4 (by decide) (by decide)]
  exact x
theorem Fs.Hl {R S : RT} (h : Fs R S) (x : RHl R) : RHl S := by
  unfold RHl
  rw [h 3 (by decide) (by decide), h 5 (by decide) (by decide)]
  exact x
theorem Fs.A {R S : RT} (h : Fs R S) (x : RA R) : RA S := by
  unfold RA
  rw [h 7 (by decide) (by decide)]
  exact x
theorem Fs.Ad {R S : RT} (h : Fs R S) (x : RAd R) : RAd S := by
  unfold RAd
  rw [h 7 (by decide) (by decide), h 8 (by decide) (by decide), h 3 (by decide) (by decide), h 9 (by decide) (by decide), h 10 (by decide) (by decide), h 11 (by decide) (by decide), h 12 (by decide) (by decide), h 13 (by decide) (by decide), h 14 (by decide) (by decide), h 20 (by decide) (by decide)]
  exact x
theorem Fs.P {R S : RT} (h : Fs R S) (x : RP R) : RP S := by
  unfold RP
  rw [h 24 (by decide) (by decide), h 25 (by decide) (by decide), h 7 (by decide) (by decide), h 26 (by decide) (by decide), h 27 (by decide) (by decide)]
  exact x
theorem Fs.S {R S : RT} (h : Fs R S) (x : RS R) : RS S := by
  unfold RS
  rw [h 7 (by decide) (by decide), h 18 (by decide) (by decide), h 19 (by decide) (by decide), h 21 (by decide) (by decide), h 23 (by decide) (by decide)]
  exact x
theorem Fs.refl {R : RT} : Fs R R := fun _ _ _ => rfl
theorem Fs.trans {R S T : RT} (h : Fs R S) (k : Fs S T) : Fs R T := fun f a b => (k f a b).trans (h f a b)
theorem Fs.u {R S : RT} {k j : Nat} {v : Int} (h : Fs R S) (hk : k = 1 ∨ 28 ≤ k) : Fs R (u2 S k j v) := fun f a b => by
  rw [← h f a b]
  funext i
  exact u2_k (by omega)
theorem rC_of {R S : RT} (h3 : S 3 = R 3) (h34 : S 34 = R 34) (h35 : S 35 = R 35) (h36 : S 36 = R 36) (h37 : S 37 = R 37) (h39 : S 39 = R 39) (x : RC R) : RC S := by
  unfold RC
  rw [h3, h34, h35, h36, h37, h39]
  exact x
def rSnd1 (R : RT) (k q : Int) : RT := u2 (u2 (u2 (u2 R 33 (12 * q + R 32 q.toNat).toNat (1000 * R 35 k.toNat + R 36 k.toNat)) 32 q.toNat (R 32 q.toNat + 1)) 43 k.toNat (R 1 0)) 1 0 (R 1 0 + 1)
def rSndK (a w q len : Int) : Nat → RT → RT
  | 0, R => R
  | n + 1, R => if rMany (rSndK a w q len n R 39 n) = len ∧ rGoes (rSndK a w q len n R) n a w = true then rSnd1 (rSndK a w q len n R) n q else rSndK a w q len n R
def rSndL (R : RT) (a w q : Int) : Nat → RT
  | 0 => R
  | m + 1 => rSndK a w q (3 - (m : Int)) (R 34 0).toNat (rSndL R a w q m)
def rSends (R : RT) (a w q : Int) : RT := rSndL R a w q 4
def rNg (R : RT) (len : Int) : Nat → Int
  | 0 => 0
  | n + 1 => rNg R len n + (if rMany (R 39 n) = len then 1 else 0)
theorem rNg_step {R : RT} {len : Int} {n : Nat} : rNg R len n ≤ rNg R len (n + 1) ∧ (rMany (R 39 n) = len → rNg R len (n + 1) = rNg R len n + 1) := by
  rw [rNg]
  constructor
  · split <;> omega
  · intro h; rw [if_pos h]
theorem rNg_mono {R : RT} {len : Int} {n : Nat} : ∀ d, rNg R len n ≤ rNg R len (n + d) := by
  intro d
  induction d with
  | zero => exact Int.le_refl _
  | succ d ih => exact Int.le_trans ih (rNg_step).1
theorem rNg_all {R : RT} : ∀ n : Nat, rNg R 3 n + rNg R 2 n + rNg R 1 n + rNg R 0 n ≤ n ∧ 0 ≤ rNg R 3 n ∧ 0 ≤ rNg R 2 n ∧ 0 ≤ rNg R 1 n ∧ 0 ≤ rNg R 0 n := by
  intro n
  induction n with
  | zero => exact ⟨Int.le_refl _, Int.le_refl _, Int.le_refl _, Int.le_refl _, Int.le_refl _⟩
  | succ n ih =>
    rw [rNg, rNg, rNg, rNg]
    generalize rMany (R 39 n) = z
    have h3 : (if z = 3 then (1 : Int) else 0) = 1 ∧ z = 3 ∨ (if z = 3 then (1 : Int) else 0) = 0 := by split <;> omega
    have h2 : (if z = 2 then (1 : Int) else 0) = 1 ∧ z = 2 ∨ (if z = 2 then (1 : Int) else 0) = 0 := by split <;> omega
    have h1 : (if z = 1 then (1 : Int) else 0) = 1 ∧ z = 1 ∨ (if z = 1 then (1 : Int) else 0) = 0 := by split <;> omega
    have h0 : (if z = 0 then (1 : Int) else 0) = 1 ∧ z = 0 ∨ (if z = 0 then (1 : Int) else 0) = 0 := by split <;> omega
    omega
def rNh (R : RT) (n : Int) : Int := (if n < 3 then rNg R 3 (R 34 0).toNat else 0) + (if n < 2 then rNg R 2 (R 34 0).toNat else 0) + (if n < 1 then rNg R 1 (R 34 0).toNat else 0) + (if n < 0 then rNg R 0 (R 34 0).toNat else 0)
theorem rNh_end {R : RT} {n : Int} (h : 0 ≤ n ∧ n ≤ 3) : rNh R n + rNg R n (R 34 0).toNat = rNh R (n + -1) := by
  have h2 : n = 0 ∨ n = 1 ∨ n = 2 ∨ n = 3 := by omega
  unfold rNh
  rcases h2 with h | h | h | h <;> subst h <;> simp <;> omega
theorem rNh_top {R : RT} {n : Int} (hC : 0 ≤ R 34 0) (h : -1 ≤ n) : 0 ≤ rNh R n ∧ rNh R n ≤ R 34 0 := by
  have := rNg_all (R := R) (R 34 0).toNat
  unfold rNh
  (repeat (first | omega | split))
theorem rNh_k {R : RT} {n k : Int} (h : 0 ≤ n ∧ n ≤ 3) (hk : 0 ≤ k ∧ k < R 34 0) : rNh R n + rNg R n (k.toNat + 1) ≤ R 34 0 := by
  have h1 := rNg_mono (R := R) (len := n) (n := k.toNat + 1) ((R 34 0).toNat - (k.toNat + 1))
  rw [show k.toNat + 1 + ((R 34 0).toNat - (k.toNat + 1)) = (R 34 0).toNat by omega] at h1
  have h2 := rNh_end (R := R) h
  have h3 := rNh_top (R := R) (n := n + -1) (by omega) (by omega)
  omega
def rSI (R S : RT) (q x : Int) : Prop := (∀ f, f ≠ 1 → f ≠ 32 → f ≠ 33 → f ≠ 43 → S f = R f) ∧ (0 ≤ S 32 q.toNat ∧ S 32 q.toNat ≤ x) ∧ (0 ≤ S 1 0 ∧ S 1 0 ≤ R 1 0 + x)
theorem rSI_mono {R S : RT} {q x y : Int} (h : rSI R S q x) (hxy : x ≤ y) : rSI R S q y := ⟨h.1, ⟨h.2.1.1, by have := h.2.1.2; omega⟩, ⟨h.2.2.1, by have := h.2.2.2; omega⟩⟩
theorem rSI_1 {R S : RT} {q x : Int} (k : Int) (h : rSI R S q x) : rSI R (rSnd1 S k q) q (x + 1) := by
  obtain ⟨a, b, c⟩ := h
  refine ⟨?_, ?_, ?_⟩
  · intro f h1 h2 h3 h4
    rw [← a f h1 h2 h3 h4]
    funext j
    unfold rSnd1
    rw [u2_k h1, u2_k h4, u2_k h2, u2_k h3]
  · unfold rSnd1
    rw [u2_k (by decide), u2_k (by decide), u2_s]
    omega
  · unfold rSnd1
    rw [u2_s]
    omega
theorem rSI.Fs {R S : RT} {q x : Int} (h : rSI R S q x) : Fs R S := fun f a b => h.1 f b (by omega) (by omega) (by omega)
theorem rSI.C {R S : RT} {q x : Int} (h : rSI R S q x) (hC : RC R) : RC S := rC_of (h.1 3 (by decide) (by decide) (by decide) (by decide)) (h.1 34 (by decide) (by decide) (by decide) (by decide)) (h.1 35 (by decide) (by decide) (by decide) (by decide)) (h.1 36 (by decide) (by decide) (by decide) (by decide)) (h.1 37 (by decide) (by decide) (by decide) (by decide)) (h.1 39 (by decide) (by decide) (by decide) (by decide)) hC
theorem rSndK_I {R T : RT} {a w q n : Int} (hn : 0 ≤ n ∧ n ≤ 3) (h : rSI R T q (rNh R n)) : ∀ k : Nat, rSI R (rSndK a w q n k T) q (rNh R n + rNg R n k) := by
  intro k
  induction k with
  | zero => exact rSI_mono h (by rw [rNg]; omega)
  | succ k ih =>
    rw [rSndK]
    split
    · rename_i hc
      have e : rMany (R 39 k) = n := by rw [← ih.1 39 (by decide) (by decide) (by decide) (by decide)]; exact hc.1
      exact rSI_mono (rSI_1 _ ih) (by rw [(rNg_step).2 e]; omega)
    · exact rSI_mono ih (by have := (rNg_step (R := R) (len := n) (n := k)).1; omega)
theorem rSndL_I {R : RT} {a w q : Int} (h0 : R 32 q.toNat = 0) (h1 : 0 ≤ R 1 0) : ∀ m : Nat, m ≤ 4 → rSI R (rSndL R a w q m) q (rNh R (3 - (m : Int))) := by
  intro m
  induction m with
  | zero => intro _; exact ⟨fun f _ _ _ _ => rfl, ⟨by rw [rSndL, h0]; omega, by rw [rSndL, h0]; exact Int.le_refl _⟩, ⟨h1, by show R 1 0 ≤ R 1 0 + 0; omega⟩⟩
  | succ m ih =>
    intro hm
    have h := rSndK_I (a := a) (w := w) (n := 3 - (m : Int)) (by omega) (ih (by omega)) (R 34 0).toNat
    rw [rNh_end (by omega), show 3 - (m : Int) + -1 = 3 - ((m + 1 : Nat) : Int) by omega] at h
    exact h
theorem rSends_I {R : RT} {a w q : Int} (h0 : R 32 q.toNat = 0) (h1 : 0 ≤ R 1 0) (hC : 0 ≤ R 34 0) : rSI R (rSends R a w q) q (R 34 0) :=
  rSI_mono (rSndL_I h0 h1 4 (by decide)) (rNh_top hC (by decide)).2
