/-! a reference resolved: the reference's scratch row told outright -/
def rPw (r : Int) : Int := if r < 10 then 1 else if r < 100 then 10 else if r < 1000 then 100 else if r < 10000 then 1000 else 10000
def rPm (r : Int) : Nat := if r < 10 then 0 else if r < 100 then 1 else if r < 1000 then 2 else if r < 10000 then 3 else 4
def rKk : Nat → Int
  | 0 => 0
  | 1 => 1
  | 2 => 10
  | 3 => 100
  | _ => 1000
def rZw (R : RT) (w : Int) : RT × Int := if 99 < w then (u2 (u2 R 70 0 (w / 100 % 10)) 70 1 (w / 10 % 10), 2) else if 9 < w then (u2 R 70 0 (w / 10 % 10), 1) else (R, 0)
def rZ0 (R : RT) (a r : Int) : RT × Int := if r / rPw r = 1 then rZw R (R 11 a.toNat) else (R, 0)
def rZ3 : Nat → Int → RT × Int → RT × Int
  | 0, _, z => z
  | m + 1, r, z => if 0 < r / rKk (m + 1) % 10 then rZ3 m r (u2 z.1 70 z.2.toNat (r / rKk (m + 1) % 10), z.2 + 1) else if 0 < z.2 then rZ3 m r (z.1, z.2 - 1) else rZ3 m r z
def rZ (R : RT) (a r : Int) : RT × Int := rZ3 (rPm r) r (rZ0 R a r)
def rWay (S : RT) (k : Int) : Int := if k ≤ 0 then 0 else if k = 1 then S 70 0 else if k = 2 then 10 * S 70 0 + S 70 1 else 100 * S 70 0 + 10 * S 70 1 + S 70 2
def rRsd (R : RT) (a r : Int) : Int := if 3 < (rZ R a r).2 then -1 else rWay (rZ R a r).1 (rZ R a r).2
def rRsdR (R : RT) (a r : Int) : RT := (rZ R a r).1
def rSeg (S : RT) (n : Int) : Prop := ∀ j : Nat, (j : Int) < n → 0 ≤ S 70 j ∧ S 70 j ≤ 9
def rZi (R : RT) (w k n : Int) (S : RT) : Prop := (k = 100 ∧ n = 0 ∧ S = R ∧ 99 < w) ∨ (k = 10 ∧ n = 1 ∧ 99 < w ∧ S = u2 R 70 0 (w / 100 % 10)) ∨ (k = 10 ∧ n = 0 ∧ 9 < w ∧ w ≤ 99 ∧ S = R) ∨ (k = 1 ∧ (S, n) = rZw R w)
theorem rZi_0 (R : RT) (w : Int) : rZi R w (if 99 < w then 100 else if 9 < w then 10 else 1) 0 R := by
  unfold rZi rZw
  by_cases h : 99 < w
  · rw [if_pos h]; exact Or.inl ⟨rfl, rfl, rfl, h⟩
  · by_cases h2 : 9 < w
    · rw [if_neg h, if_pos h2]; exact Or.inr (Or.inr (Or.inl ⟨rfl, rfl, h2, by omega, rfl⟩))
    · rw [if_neg h, if_neg h2, if_neg h, if_neg h2]; exact Or.inr (Or.inr (Or.inr ⟨rfl, rfl⟩))
theorem rZi_in {R : RT} {w k n : Int} {S : RT} (h : rZi R w k n S) : (k = 1 ∨ k = 10 ∨ k = 100) ∧ 0 ≤ n ∧ n ≤ 2 := by
  rcases h with ⟨a, b, c, d⟩ | ⟨a, b, c, d⟩ | ⟨a, b, c, d, e⟩ | ⟨a, b⟩
  · omega
  · omega
  · omega
  · have b2 : n = (rZw R w).2 := by rw [← b]
    have : 0 ≤ (rZw R w).2 ∧ (rZw R w).2 ≤ 2 := by unfold rZw; (repeat (first | (dsimp only; omega) | split))
    omega
theorem rZi_step {R : RT} {w k n : Int} {S : RT} (h : rZi R w k n S) (h1 : 1 < k) : rZi R w (k / 10) (n + 1) (u2 S 70 n.toNat (w / k % 10)) := by
  rcases h with ⟨a, b, c, d⟩ | ⟨a, b, c, d⟩ | ⟨a, b, c, d, e⟩ | ⟨a, b⟩
  · subst a b c
    exact Or.inr (Or.inl ⟨rfl, rfl, d, rfl⟩)
  · subst a b d
    refine Or.inr (Or.inr (Or.inr ⟨rfl, ?_⟩))
    rw [rZw, if_pos c]; rfl
  · subst a b e
    refine Or.inr (Or.inr (Or.inr ⟨rfl, ?_⟩))
    rw [rZw, if_neg (by omega), if_pos c]; rfl
  · omega
theorem rZi_end {R : RT} {w k n : Int} {S : RT} (h : rZi R w k n S) (h1 : ¬ 1 < k) : (S, n) = rZw R w := by
  rcases h with ⟨a, b, c, d⟩ | ⟨a, b, c, d⟩ | ⟨a, b, c, d, e⟩ | ⟨a, b⟩
  · omega
  · omega
  · omega
  · exact b
theorem rZw_in {R : RT} {w : Int} : rSeg (rZw R w).1 (rZw R w).2 ∧ 0 ≤ (rZw R w).2 ∧ (rZw R w).2 ≤ 2 ∧ ∀ f j, f ≠ 70 → (rZw R w).1 f j = R f j := by
  unfold rZw
  split
  · refine ⟨?_, by dsimp only; omega, by dsimp only; omega, fun f j hf => by dsimp only; rw [u2_k hf, u2_k hf]⟩
    intro j hj
    have h2 : j = 0 ∨ j = 1 := by (dsimp only at hj; omega)
    rcases h2 with h | h <;> subst h
    · dsimp only; rw [u2_a (by decide), u2_s]; omega
    · dsimp only; rw [u2_s]; omega
  · split
    · refine ⟨?_, by dsimp only; omega, by dsimp only; omega, fun f j hf => by dsimp only; rw [u2_k hf]⟩
      intro j hj
      have h2 : j = 0 := by (dsimp only at hj; omega)
      subst h2
      dsimp only; rw [u2_s]; omega
    · exact ⟨fun j hj => by (dsimp only at hj; omega), by dsimp only; omega, by dsimp only; omega, fun f j _ => rfl⟩
theorem rZ0_in {R : RT} {a r : Int} : rSeg (rZ0 R a r).1 (rZ0 R a r).2 ∧ 0 ≤ (rZ0 R a r).2 ∧ (rZ0 R a r).2 ≤ 2 ∧ ∀ f j, f ≠ 70 → (rZ0 R a r).1 f j = R f j := by
  unfold rZ0
  split
  · exact rZw_in
  · exact ⟨fun j hj => by (dsimp only at hj; omega), by dsimp only; omega, by dsimp only; omega, fun f j _ => rfl⟩
theorem rSeg_put {S : RT} {n v : Int} (h : rSeg S n) (h0 : 0 ≤ n) (hv : 0 ≤ v ∧ v ≤ 9) : rSeg (u2 S 70 n.toNat v) (n + 1) := by
  intro j hj
  by_cases q : j = n.toNat
  · subst q; rw [u2_s]; exact hv
  · rw [u2_a q]; exact h j (by omega)
theorem rZ3_out : ∀ (m : Nat) (r : Int) (z : RT × Int) (f j : Nat), f ≠ 70 → (rZ3 m r z).1 f j = z.1 f j := by
  intro m
  induction m with
  | zero => intro r z f j hf; rfl
  | succ m ih =>
    intro r z f j hf
    rw [rZ3]
    split
    · rw [ih _ _ _ _ hf]; dsimp only; rw [u2_k hf]
    · split
      · rw [ih _ _ _ _ hf]
      · rw [ih _ _ _ _ hf]
theorem rZ_out {R : RT} {a r : Int} {f j : Nat} (hf : f ≠ 70) : rRsdR R a r f j = R f j := by
  unfold rRsdR rZ
  rw [rZ3_out _ _ _ _ _ hf, rZ0_in.2.2.2 _ _ hf]
theorem rPm_in (r : Int) : rPm r ≤ 4 := by unfold rPm; (repeat (first | omega | split))
theorem rKk_pm (r : Int) : rPw r / 10 = rKk (rPm r) := by unfold rPw rPm; (repeat (first | rfl | split))
theorem rKk_pos {m : Nat} : 0 < rKk m ↔ 0 < m := by
  match m with
  | 0 => decide
  | 1 => decide
  | 2 => decide
  | 3 => decide
  | n + 4 => exact ⟨fun _ => by omega, fun _ => by show (0 : Int) < 1000; decide⟩
theorem rKk_in (m : Nat) : 0 ≤ rKk m ∧ rKk m ≤ 1000 := by
  match m with
  | 0 => decide
  | 1 => decide
  | 2 => decide
  | 3 => decide
  | n + 4 => exact ⟨by show (0 : Int) ≤ 1000; decide, by show (1000 : Int) ≤ 1000; decide⟩
theorem rKk_div {m : Nat} (h : m ≤ 4) : rKk m / 10 = rKk (m - 1) := by
  match m with
  | 0 => rfl
  | 1 => rfl
  | 2 => rfl
  | 3 => rfl
  | 4 => rfl
  | n + 5 => omega
theorem rQuo {x k : Int} (h : 0 ≤ x) (hk : 0 < k) : 0 ≤ x / k ∧ x / k ≤ x := ⟨Int.ediv_nonneg h (by omega), Int.ediv_le_self _ h⟩
theorem rWay_step {S : RT} {k : Int} (h : 0 ≤ k ∧ k ≤ 2) : 10 * rWay S k + S 70 k.toNat = rWay S (k + 1) := by
  have h2 : k = 0 ∨ k = 1 ∨ k = 2 := by omega
  unfold rWay
  rcases h2 with h | h | h <;> subst h
  · show 10 * 0 + S 70 0 = S 70 0; omega
  · rfl
  · show 10 * (10 * S 70 0 + S 70 1) + S 70 2 = 100 * S 70 0 + 10 * S 70 1 + S 70 2; omega
theorem rWay_in {S : RT} {n k : Int} (h : rSeg S n) (hk : k ≤ n) (h3 : k ≤ 3) : 0 ≤ rWay S k ∧ rWay S k ≤ 999 := by
  have a0 := h 0
  have a1 := h 1
  have a2 := h 2
  unfold rWay
  (repeat (first | omega | split))
theorem rIsRef_in {r : Int} (h : rIsRef r = true) : 1 ≤ r ∧ r ≤ 29999 := by
  unfold rIsRef rLies at h
  simp only [Bool.or_eq_true, decide_eq_true_iff] at h
  omega
theorem rZ3_step {m : Nat} {r n : Int} {S : RT} (h : 0 < m) : rZ3 m r (S, n) = if 0 < r / rKk m % 10 then rZ3 (m - 1) r (u2 S 70 n.toNat (r / rKk m % 10), n + 1) else if 0 < n then rZ3 (m - 1) r (S, n - 1) else rZ3 (m - 1) r (S, n) := by
  obtain ⟨q, rfl⟩ : ∃ q, m = q + 1 := ⟨m - 1, by omega⟩
  rfl
def rRslIs (R : RT) (a r : Int) : Bool := rIsAddress R a && rIsRef r
def rRslW (R : RT) (a r : Int) : Int := if rRslIs R a r = true then rRsd R a r else -1
def rRslS (R : RT) (a r : Int) : RT := if rRslIs R a r = true then rRsdR R a r else R
def rRslV (R : RT) (a r : Int) : Int := if rRslW R a r = -1 then -1 else rTells (rRslS R a r) (R 8 a.toNat) (R 9 a.toNat) (R 10 a.toNat) (rRslW R a r)
def rRslT (R : RT) (a r : Int) : RT := if rRslW R a r = -1 then rRslS R a r else rTellsR (rRslS R a r) (R 8 a.toNat) (R 9 a.toNat) (R 10 a.toNat) (rRslW R a r)
def rRslC (R : RT) (a r : Int) : Int := if rIsAddress R a = false then 1 else if rRslW R a r = -1 then 2 else if rRslV R a r = -1 then 3 else 0
def rRsl (R : RT) (a r : Int) : Int := if 0 < rRslC R a r then 0 else rRslV R a r
theorem rRslS_out {R : RT} {a r : Int} {f j : Nat} (hf : f ≠ 70) : rRslS R a r f j = R f j := by
  unfold rRslS
  split
  · exact rZ_out hf
  · rfl
theorem rZ3_seg : ∀ (m : Nat) (r : Int) (z : RT × Int), rSeg z.1 z.2 → 0 ≤ z.2 → rSeg (rZ3 m r z).1 (rZ3 m r z).2 ∧ 0 ≤ (rZ3 m r z).2 := by
  intro m
  induction m with
  | zero => intro r z h h0; exact ⟨h, h0⟩
  | succ m ih =>
    intro r z h h0
    rw [rZ3]
    split
    · exact ih _ _ (rSeg_put h h0 (by omega)) (by dsimp only; omega)
    · split
      · exact ih _ _ (fun j hj => h j (by dsimp only at hj; omega)) (by dsimp only; omega)
      · exact ih _ _ h h0
theorem rRslW_in {R : RT} {a r : Int} : -1 ≤ rRslW R a r ∧ rRslW R a r ≤ 999 := by
  have h := rZ3_seg (rPm r) r (rZ0 R a r) rZ0_in.1 rZ0_in.2.1
  unfold rRslW
  split
  · unfold rRsd
    split
    · omega
    · have := rWay_in (S := (rZ R a r).1) (n := (rZ R a r).2) (k := (rZ R a r).2) h.1 (by omega) (by omega)
      omega
  · omega
theorem rRslS_A {R : RT} {a r : Int} (hA : RA R) : RA (rRslS R a r) := by
  unfold RA
  rw [rRslS_out (by decide)]
  exact hA
theorem rRslV_in {R : RT} {a r : Int} (hA : RA R) : -1 ≤ rRslV R a r ∧ rRslV R a r < 24 := by
  unfold rRslV
  split
  · omega
  · exact rTells_in (rRslS_A hA) _ _ _ _
