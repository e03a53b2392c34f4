/-! the text of an address, sign by sign -/
def rkTz (f : Int → Int) (xs : List Nat) : Prop := ∀ k : Int, 0 ≤ k → (k < (xs.length : Int) → f k = ((xs.getD k.toNat 0 : Nat) : Int) ∧ xs.getD k.toNat 0 ≠ 32) ∧ ((xs.length : Int) ≤ k → f k = 32)
section TEXTZ
variable {R S : RT} {f g : Int → Int} {xs ys : List Nat} {a : Int}
theorem tz_eq (h : rkTz f xs) (e : ∀ k, 0 ≤ k → g k = f k) : rkTz g xs := fun k k0 => by
  rw [e k k0]
  exact h k k0
theorem tz_app (hx : ∀ k : Int, 0 ≤ k → k < (xs.length : Int) → f k = ((xs.getD k.toNat 0 : Nat) : Int) ∧ xs.getD k.toNat 0 ≠ 32) (hy : rkTz (fun k => f (k + (xs.length : Int))) ys) : rkTz f (xs ++ ys) := fun k k0 => by
  rw [List.length_append]
  by_cases c : k < (xs.length : Int)
  · have e : (xs ++ ys).getD k.toNat 0 = xs.getD k.toNat 0 := by
      rw [List.getD_eq_getElem?_getD, List.getD_eq_getElem?_getD, List.getElem?_append_left (by omega)]
    rw [e]
    exact ⟨fun _ => hx k k0 c, fun z => by omega⟩
  · have e : (xs ++ ys).getD k.toNat 0 = ys.getD (k - (xs.length : Int)).toNat 0 := by
      rw [List.getD_eq_getElem?_getD, List.getD_eq_getElem?_getD, List.getElem?_append_right (by omega), show k.toNat - xs.length = (k - (xs.length : Int)).toNat by omega]
    have y := hy (k - (xs.length : Int)) (by omega)
    (try dsimp only at y)
    rw [show k - (xs.length : Int) + (xs.length : Int) = k by omega] at y
    rw [e]
    exact ⟨fun z => y.1 (by omega), fun z => y.2 (by omega)⟩
theorem rkLb_z (w : Int) (hw : 0 ≤ w ∧ w ≤ 701) : ((rkLb w).length : Int) = rLetters w ∧ ∀ k : Int, 0 ≤ k → k < ((rkLb w).length : Int) → rLetter w k = (((rkLb w).getD k.toNat 0 : Nat) : Int) ∧ (rkLb w).getD k.toNat 0 ≠ 32 := by
  unfold rkLb rLetters rLetter
  by_cases c : w < 26
  · rw [if_pos c, if_pos c]
    refine ⟨rfl, fun k k0 k1 => ?_⟩
    have k1' : k < 1 := k1
    have e : k = 0 := by omega
    subst e
    rw [if_pos c, if_pos rfl]
    show (97 + w = (((97 + w).toNat : Nat) : Int)) ∧ (97 + w).toNat ≠ 32
    omega
  · rw [if_neg c, if_neg c]
    refine ⟨rfl, fun k k0 k1 => ?_⟩
    have k1' : k < 2 := k1
    rw [if_neg c]
    have e : k = 0 ∨ k = 1 := by omega
    rcases e with rfl | rfl
    · rw [if_pos rfl]
      show (97 + (w - 26) / 26 = (((97 + (w - 26) / 26).toNat : Nat) : Int)) ∧ (97 + (w - 26) / 26).toNat ≠ 32
      omega
    · rw [if_neg (by decide), if_pos rfl]
      show (97 + (w - 26) % 26 = (((97 + (w - 26) % 26).toNat : Nat) : Int)) ∧ (97 + (w - 26) % 26).toNat ≠ 32
      omega
/-- the host's part -/
theorem rkHt_z (hH : RH R) (hl : RHl R) (h4 : S 4 = R 4) (h5 : S 5 = R 5) (hy : rkTz (rBeh S a) ys) : ∀ (n : Nat) (q : Int), 0 ≤ q → q < R 3 0 → q + 1 < n → rkTz (rSignF S a n q) (rkHtF R n q ++ ys) := by
  intro n
  induction n with
  | zero => intro q q0 _ h; omega
  | succ n ih =>
    intro q q0 q1 hn
    have u := hH.2 q.toNat (by omega)
    have w := hl q.toNat (by omega)
    obtain ⟨l1, l2⟩ := rkLb_z (R 5 q.toNat) w
    have hq : ¬ q = -1 := by omega
    have e0 : ∀ k, k < rLetters (R 5 q.toNat) → rSignF S a (n + 1) q k = rLetter (R 5 q.toNat) k := fun k hk => by
      rw [rSignF, h5, if_neg (fun z => by omega), if_neg hq]
    rw [rkHtF, if_neg hq, List.append_assoc]
    refine tz_app (fun k k0 k1 => ?_) ?_
    · rw [e0 k (by omega)]
      exact l2 k k0 k1
    · by_cases c : R 4 q.toNat = -1
      · rw [if_pos c]
        refine tz_eq hy (fun k k0 => ?_)
        (try dsimp only)
        rw [rSignF, h5, h4, if_pos ⟨hq, by omega⟩, if_pos c, c]
        obtain ⟨m, rfl⟩ : ∃ m, n = m + 1 := ⟨n - 1, by omega⟩
        rw [rSignF, if_neg (fun z => z.1 rfl), if_pos rfl]
        congr 1
        omega
      · rw [if_neg c]
        have i := ih (R 4 q.toNat) (by omega) (by omega) (by omega)
        have s : ∀ k, 0 ≤ k → rSignF S a (n + 1) q (k + ((rkLb (R 5 q.toNat)).length : Int)) = if k = 0 then 46 else rSignF S a n (R 4 q.toNat) (k - 1) := fun k k0 => by
          rw [rSignF, h5, h4, if_pos ⟨hq, by omega⟩, if_neg c, show k + ((rkLb (R 5 q.toNat)).length : Int) - rLetters (R 5 q.toNat) = k by omega]
        refine tz_eq (f := fun k => if k = 0 then 46 else rSignF S a n (R 4 q.toNat) (k - 1)) ?_ s
        refine tz_app (xs := [46]) (ys := rkHtF R n (R 4 q.toNat) ++ ys) (fun k k0 k1 => ?_) (tz_eq i (fun k k0 => ?_))
        · have k1' : k < 1 := k1
          have e : k = 0 := by omega
          subst e
          exact ⟨rfl, by decide⟩
        · show (if k + 1 = 0 then (46 : Int) else rSignF S a n (R 4 q.toNat) (k + 1 - 1)) = _
          rw [if_neg (by omega), show k + 1 - 1 = k by omega]
/-- the path's part -/
theorem rkPt_z {w : Int} (hw : 0 ≤ w ∧ w ≤ 999) (h : S 11 a.toNat = w) : rkTz (rBeh2 S a) (rkPt w) := fun k k0 => by
  unfold rBeh2 rkPt rMany
  rw [h]
  by_cases c0 : w = 0
  · subst c0
    refine ⟨fun k1 => ?_, fun k1 => ?_⟩
    · have k1' : k < 1 := k1
      have e : k = 0 := by omega
      subst e
      exact ⟨rfl, show (47 : Nat) ≠ 32 by decide⟩
    · have k1' : 1 ≤ k := k1
      simp
      omega
  · by_cases c1 : w < 10
    · rw [if_neg c0, if_pos c1, if_neg (show ¬ 99 < w by omega), if_neg (show ¬ 9 < w by omega), if_pos (show 0 < w by omega)]
      refine ⟨fun k1 => ?_, fun k1 => ?_⟩
      · have k1' : k < 2 := k1
        have e : k = 0 ∨ k = 1 := by omega
        rcases e with rfl | rfl
        · exact ⟨rfl, show (47 : Nat) ≠ 32 by decide⟩
        · show (48 + w % 10 = (((48 + w).toNat : Nat) : Int)) ∧ (48 + w).toNat ≠ 32
          omega
      · have k1' : 2 ≤ k := k1
        rw [if_neg (by decide), if_pos (by omega)]
    · by_cases c2 : w < 100
      · rw [if_neg c0, if_neg c1, if_pos c2, if_neg (show ¬ 99 < w by omega), if_pos (show 9 < w by omega)]
        refine ⟨fun k1 => ?_, fun k1 => ?_⟩
        · have k1' : k < 4 := k1
          have e : k = 0 ∨ k = 1 ∨ k = 2 ∨ k = 3 := by omega
          rcases e with rfl | rfl | rfl | rfl
          · exact ⟨rfl, show (47 : Nat) ≠ 32 by decide⟩
          · show (48 + w / 10 % 10 = (((48 + w / 10).toNat : Nat) : Int)) ∧ (48 + w / 10).toNat ≠ 32
            omega
          · exact ⟨rfl, show (47 : Nat) ≠ 32 by decide⟩
          · show (48 + w % 10 = (((48 + w % 10).toNat : Nat) : Int)) ∧ (48 + w % 10).toNat ≠ 32
            omega
        · have k1' : 4 ≤ k := k1
          rw [if_neg (by decide), if_pos (by omega)]
      · rw [if_neg c0, if_neg c1, if_neg c2, if_pos (show 99 < w by omega)]
        refine ⟨fun k1 => ?_, fun k1 => ?_⟩
        · have k1' : k < 6 := k1
          have e : k = 0 ∨ k = 1 ∨ k = 2 ∨ k = 3 ∨ k = 4 ∨ k = 5 := by omega
          rcases e with rfl | rfl | rfl | rfl | rfl | rfl
          · exact ⟨rfl, show (47 : Nat) ≠ 32 by decide⟩
          · show (48 + w / 10 / 10 % 10 = (((48 + w / 100).toNat : Nat) : Int)) ∧ (48 + w / 100).toNat ≠ 32
            omega
          · exact ⟨rfl, show (47 : Nat) ≠ 32 by decide⟩
          · show (48 + w / 10 % 10 = (((48 + w / 10 % 10).toNat : Nat) : Int)) ∧ (48 + w / 10 % 10).toNat ≠ 32
            omega
          · exact ⟨rfl, show (47 : Nat) ≠ 32 by decide⟩
          · show (48 + w % 10 = (((48 + w % 10).toNat : Nat) : Int)) ∧ (48 + w % 10).toNat ≠ 32
            omega
        · have k1' : 6 ≤ k := k1
          rw [if_neg (by decide), if_pos (by omega)]
/-- the port's digits -/
theorem rkDg_z {p : Int} (hp : 0 < p ∧ p ≤ 9999) : ((dgs p.toNat).length : Int) = rDig p ∧ ∀ k : Int, 0 ≤ k → k < ((dgs p.toNat).length : Int) → 48 + rDivs (rDig p - (k + 1)).toNat p % 10 = (((dgs p.toNat).getD k.toNat 0 : Nat) : Int) ∧ (dgs p.toNat).getD k.toNat 0 ≠ 32 := by
  obtain ⟨x, rfl⟩ := Int.eq_ofNat_of_zero_le (show 0 ≤ p by omega)
  have ex : ((x : Int)).toNat = x := by omega
  unfold dgs rDig
  rw [ex]
  by_cases c1 : x < 10
  · rw [if_pos c1, if_neg (show ¬ (999 : Int) < x by omega), if_neg (show ¬ (99 : Int) < x by omega), if_neg (show ¬ (9 : Int) < x by omega)]
    refine ⟨rfl, fun k k0 k1 => ?_⟩
    have k1' : k < 1 := k1
    have e : k = 0 := by omega
    subst e
    show (48 + (x : Int) % 10 = (((48 + x : Nat)) : Int)) ∧ 48 + x ≠ 32
    omega
  · by_cases c2 : x < 100
    · rw [if_neg c1, if_pos c2, if_neg (show ¬ (999 : Int) < x by omega), if_neg (show ¬ (99 : Int) < x by omega), if_pos (show (9 : Int) < x by omega)]
      refine ⟨rfl, fun k k0 k1 => ?_⟩
      have k1' : k < 2 := k1
      have e : k = 0 ∨ k = 1 := by omega
      rcases e with rfl | rfl
      · show (48 + (x : Int) / 10 % 10 = (((48 + x / 10 : Nat)) : Int)) ∧ 48 + x / 10 ≠ 32
        omega
      · show (48 + (x : Int) % 10 = (((48 + x % 10 : Nat)) : Int)) ∧ 48 + x % 10 ≠ 32
        omega
    · by_cases c3 : x < 1000
      · rw [if_neg c1, if_neg c2, if_pos c3, if_neg (show ¬ (999 : Int) < x by omega), if_pos (show (99 : Int) < x by omega)]
        refine ⟨rfl, fun k k0 k1 => ?_⟩
        have k1' : k < 3 := k1
        have e : k = 0 ∨ k = 1 ∨ k = 2 := by omega
        rcases e with rfl | rfl | rfl
        · show (48 + (x : Int) / 10 / 10 % 10 = (((48 + x / 100 : Nat)) : Int)) ∧ 48 + x / 100 ≠ 32
          omega
        · show (48 + (x : Int) / 10 % 10 = (((48 + x / 10 % 10 : Nat)) : Int)) ∧ 48 + x / 10 % 10 ≠ 32
          omega
        · show (48 + (x : Int) % 10 = (((48 + x % 10 : Nat)) : Int)) ∧ 48 + x % 10 ≠ 32
          omega
      · rw [if_neg c1, if_neg c2, if_neg c3, if_pos (show (999 : Int) < x by omega)]
        refine ⟨rfl, fun k k0 k1 => ?_⟩
        have k1' : k < 4 := k1
        have e : k = 0 ∨ k = 1 ∨ k = 2 ∨ k = 3 := by omega
        rcases e with rfl | rfl | rfl | rfl
        · show (48 + (x : Int) / 10 / 10 / 10 % 10 = (((48 + x / 1000 : Nat)) : Int)) ∧ 48 + x / 1000 ≠ 32
          omega
        · show (48 + (x : Int) / 10 / 10 % 10 = (((48 + x / 100 % 10 : Nat)) : Int)) ∧ 48 + x / 100 % 10 ≠ 32
          omega
        · show (48 + (x : Int) / 10 % 10 = (((48 + x / 10 % 10 : Nat)) : Int)) ∧ 48 + x / 10 % 10 ≠ 32
          omega
        · show (48 + (x : Int) % 10 = (((48 + x % 10 : Nat)) : Int)) ∧ 48 + x % 10 ≠ 32
          omega
theorem rkPo_z {p : Int} (hp : 0 ≤ p ∧ p ≤ 9999) (h : S 10 a.toNat = p) (hy : rkTz (rBeh2 S a) ys) : rkTz (rBeh S a) (rkPo p ++ ys) := by
  unfold rkPo
  by_cases c : p = 0
  · rw [if_pos c]
    refine tz_eq hy (fun k _ => ?_)
    unfold rBeh
    rw [h, if_neg (by omega)]
  · rw [if_neg c]
    obtain ⟨d1, d2⟩ := rkDg_z (p := p) ⟨by omega, hp.2⟩
    have s : ∀ k, rBeh S a k = if k = 0 then 58 else if k ≤ rDig p then 48 + rDivs (rDig p - k).toNat p % 10 else rBeh2 S a (k - (rDig p + 1)) := fun k => by
      unfold rBeh
      rw [h, if_pos (by omega)]
    refine tz_app (xs := 58 :: dgs p.toNat) (fun k k0 k1 => ?_) (tz_eq hy (fun k k0 => ?_))
    · rw [s]
      rw [List.length_cons] at k1
      by_cases ck : k = 0
      · subst ck
        exact ⟨rfl, by show (58 : Nat) ≠ 32; decide⟩
      · have e : (58 :: dgs p.toNat).getD k.toNat 0 = (dgs p.toNat).getD (k - 1).toNat 0 := by
          rw [show k.toNat = (k - 1).toNat + 1 by omega]
          rfl
        have y := d2 (k - 1) (by omega) (by omega)
        rw [show k - 1 + 1 = k by omega] at y
        rw [e, if_neg ck, if_pos (by omega)]
        exact y
    · show rBeh S a (k + (((58 :: dgs p.toNat).length : Nat) : Int)) = _
      rw [s, List.length_cons, if_neg (by omega), if_neg (by omega)]
      congr 1
      omega
theorem rkText_z {s h p w : Int} (hH : RH R) (hl : RHl R) (h4 : S 4 = R 4) (h5 : S 5 = R 5) (hs : 0 ≤ s ∧ s ≤ 1) (hh : 0 ≤ h ∧ h < R 3 0) (hp : 0 ≤ p ∧ p ≤ 9999) (hw : 0 ≤ w ∧ w ≤ 999) (e8 : S 8 a.toNat = s) (e9 : S 9 a.toNat = h) (e10 : S 10 a.toNat = p) (e11 : S 11 a.toNat = w) : rkTx S a (rkText R s h p w) := by
  have y : rkTz (rSignF S a 17 h) (rkHt R h ++ (rkPo p ++ rkPt w)) := rkHt_z hH hl h4 h5 (rkPo_z hp e10 (rkPt_z hw e11)) 17 h hh.1 hh.2 (by have := hH.1; omega)
  have key : rkTz (rSign S a) (kT (if s = 1 then 0 else 1) ++ (rkHt R h ++ (rkPo p ++ rkPt w))) := by
    refine tz_app (fun k k0 k1 => ?_) (tz_eq y (fun k k0 => ?_))
    · by_cases c : s = 1
      · rw [if_pos c] at k1 ⊢
        have k1' : k < 8 := k1
        have e : k = 0 ∨ k = 1 ∨ k = 2 ∨ k = 3 ∨ k = 4 ∨ k = 5 ∨ k = 6 ∨ k = 7 := by omega
        unfold rSign
        rw [e8, c]
        rcases e with rfl | rfl | rfl | rfl | rfl | rfl | rfl | rfl <;> exact ⟨rfl, by decide⟩
      · rw [if_neg c] at k1 ⊢
        have k1' : k < 7 := k1
        have e : k = 0 ∨ k = 1 ∨ k = 2 ∨ k = 3 ∨ k = 4 ∨ k = 5 ∨ k = 6 := by omega
        have s0 : s = 0 := by omega
        unfold rSign
        rw [e8, s0]
        rcases e with rfl | rfl | rfl | rfl | rfl | rfl | rfl <;> exact ⟨rfl, by decide⟩
    · (try dsimp only)
      unfold rSign
      rw [e8, e9]
      by_cases c : s = 1
      · rw [if_pos c, if_pos c]
        show (if k + 8 < 0 then (32 : Int) else if k + 8 < 4 then _ else if k + 8 < 5 then 115 else if k + 8 < 5 + 3 then _ else rSignF S a 17 h (k + 8 - 5 - 3)) = _
        rw [if_neg (by omega), if_neg (by omega), if_neg (by omega), if_neg (by omega), show k + 8 - 5 - 3 = k by omega]
      · rw [if_neg c, if_neg c]
        show (if k + 7 < 0 then (32 : Int) else if k + 7 < 4 then _ else if k + 7 < 4 then 115 else if k + 7 < 4 + 3 then _ else rSignF S a 17 h (k + 7 - 4 - 3)) = _
        rw [if_neg (by omega), if_neg (by omega), if_neg (by omega), if_neg (by omega), show k + 7 - 4 - 3 = k by omega]
  exact key
end TEXTZ
