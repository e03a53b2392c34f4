/-! kept preflights: the program's list and the reference's places -/
def rkOg (v : Int) : Int := if v = -1 then -3 else (2 * (v / 10000 % 16) + v / 10000 / 16) * 10000 + v % 10000
def rkPf (G : GT) (B : Nat → Nat) (R : RT) (k : Int) (x : Nat) : Prop := gK G x = 12 ∧ gI G 1200 x = rkOg (R 55 k.toNat) ∧ gP G 1201 x = some (rkAt G (B 2) (R 56 k.toNat)) ∧ gI G 1202 x = R 57 k.toNat ∧ gI G 1203 x = rkPm (R 58 k.toNat) ∧ gI G 1204 x = R 59 k.toNat ∧ gI G 1205 x = R 60 k.toNat
def rkFk (R : RT) (o a al w : Int) : Prop := (o = -1 ∨ (0 ≤ o ∧ o ≤ 319999)) ∧ (0 ≤ a ∧ a < R 7 0) ∧ (-1 ≤ w ∧ w ≤ 31)
def rkFs (R : RT) : Prop := 0 ≤ R 54 0 ∧ (∀ k : Nat, (k : Int) < R 54 0 → rkFk R (R 55 k) (R 56 k) (R 57 k) (R 58 k)) ∧ ∀ i j : Nat, (i : Int) < R 54 0 → (j : Int) < R 54 0 → R 55 i = R 55 j → R 56 i = R 56 j → R 57 i = R 57 j → R 58 i = R 58 j → i = j
def rkF (G : GT) (B : Nat → Nat) (R : RT) : Prop := ((gL G (B 5)).length : Int) ≤ R 53 0 ∧ (gL G (B 5)).Nodup ∧ (∀ x ∈ gL G (B 5), ∃ k : Int, (0 ≤ k ∧ k < R 54 0) ∧ rkPf G B R k x ∧ R 0 0 < R 60 k.toNat) ∧ (∀ k : Int, 0 ≤ k → k < R 54 0 → R 0 0 < R 60 k.toNat → ∃ x, x ∈ gL G (B 5) ∧ rkPf G B R k x) ∧ (∀ x ∈ gL G (B 5), ∀ y ∈ gL G (B 5), ∀ k : Int, 0 ≤ k → k < R 54 0 → rkPf G B R k x → rkPf G B R k y → x = y) ∧ rkFs R
section PREF
variable {G G' : GT} {B : Nat → Nat} {R S : RT}
theorem rkOg_inj {v w : Int} (hv : v = -1 ∨ (0 ≤ v ∧ v ≤ 319999)) (hw : w = -1 ∨ (0 ≤ w ∧ w ≤ 319999)) (h : rkOg v = rkOg w) : v = w := by
  have D : ∀ {t u : Int}, (0 ≤ t ∧ t ≤ 31) → (0 ≤ u ∧ u ≤ 31) → 2 * (t % 16) + t / 16 = 2 * (u % 16) + u / 16 → t = u := fun a b c => by omega
  have P : ∀ {v : Int}, (0 ≤ v ∧ v ≤ 319999) → (0 ≤ v / 10000 ∧ v / 10000 ≤ 31) ∧ (0 ≤ v % 10000 ∧ v % 10000 ≤ 9999) ∧ v = 10000 * (v / 10000) + v % 10000 ∧ 0 ≤ 2 * (v / 10000 % 16) + v / 10000 / 16 := fun a => by omega
  unfold rkOg at h
  by_cases cv : v = -1
  · by_cases cw : w = -1
    · omega
    · obtain ⟨p1, p2, p3, p4⟩ := P (hw.resolve_left cw)
      rw [if_pos cv, if_neg cw] at h
      generalize 2 * (w / 10000 % 16) + w / 10000 / 16 = A at *
      generalize w % 10000 = r at *
      omega
  · obtain ⟨q1, q2, q3, q4⟩ := P (hv.resolve_left cv)
    by_cases cw : w = -1
    · rw [if_neg cv, if_pos cw] at h
      generalize 2 * (v / 10000 % 16) + v / 10000 / 16 = A at *
      generalize v % 10000 = r at *
      omega
    · obtain ⟨p1, p2, p3, p4⟩ := P (hw.resolve_left cw)
      rw [if_neg cv, if_neg cw] at h
      have e : 2 * (v / 10000 % 16) + v / 10000 / 16 = 2 * (w / 10000 % 16) + w / 10000 / 16 ∧ v % 10000 = w % 10000 := by
        generalize 2 * (v / 10000 % 16) + v / 10000 / 16 = A at *
        generalize 2 * (w / 10000 % 16) + w / 10000 / 16 = C at *
        generalize v % 10000 = r at *
        generalize w % 10000 = t at *
        omega
      have := D q1 p1 e.1
      rw [q3, p3, this, e.2]
theorem rkOg_org {a : Int} (hH : RH R) (hD : RAd R) (ha : 0 ≤ a ∧ a < R 7 0) : rkOg (rOrg R a) = rkOrg R a ∧ (0 ≤ rOrg R a ∧ rOrg R a ≤ 319999) := by
  have g := rGate_in hD ha.1 ha.2
  obtain ⟨d1, d2, -⟩ := hD a.toNat (by omega)
  have := hH.1
  unfold rkOg rkOrg rOrg
  rw [if_neg (by omega)]
  omega
/-- two with one key -/
theorem rkSm_key (hA : ∀ i, 0 ≤ i → i < R 7 0 → gI G 300 (rkAt G (B 2) i) = i) {k : Int} {x y : Nat} {o a al w : Int} (hx : rkPf G B R k x) (hk : rkFk R (R 55 k.toNat) (R 56 k.toNat) (R 57 k.toNat) (R 58 k.toNat)) (hy : gI G 1200 y = rkOg o ∧ gP G 1201 y = some (rkAt G (B 2) a) ∧ gI G 1202 y = al ∧ gI G 1203 y = rkPm w) (ho : rkFk R o a al w) : rkSm G x y ↔ (R 55 k.toNat = o ∧ R 56 k.toNat = a ∧ R 57 k.toNat = al ∧ R 58 k.toNat = w) := by
  obtain ⟨x0, x1, x2, x3, x4, -⟩ := hx
  obtain ⟨y1, y2, y3, y4⟩ := hy
  unfold rkSm
  rw [x1, x2, x3, x4, y1, y2, y3, y4]
  constructor
  · rintro ⟨q1, q2, q3, q4⟩
    exact ⟨rkOg_inj hk.1 ho.1 q1, rkAt_inj (f := 300) hA hk.2.1 ho.2.1 (Option.some.inj q2), q3, (rkPm_inj hk.2.2 ho.2.2).mp q4⟩
  · rintro ⟨q1, q2, q3, q4⟩
    rw [q1, q2, q3, q4]
    exact ⟨rfl, rfl, rfl, rfl⟩
theorem rPfF_one (hF : rkFs R) {a w : Int} {i : Nat} (hi : (i : Int) < R 54 0) (h : R 55 i = rPfOrg R ∧ R 56 i = a ∧ R 57 i = R 63 0 ∧ R 58 i = w) : rPfFd R a w = i := by
  have key : ∀ m : Nat, i < m → (m : Int) ≤ R 54 0 → rPfF R a w m = i := by
    intro m
    induction m with
    | zero => intro z; omega
    | succ m ih =>
      intro h1 h2
      rw [rPfF]
      by_cases c : R 55 m = rPfOrg R ∧ R 56 m = a ∧ R 57 m = R 63 0 ∧ R 58 m = w
      · rw [if_pos c]
        have := hF.2.2 m i (by omega) hi (c.1.trans h.1.symm) (c.2.1.trans h.2.1.symm) (c.2.2.1.trans h.2.2.1.symm) (c.2.2.2.trans h.2.2.2.symm)
        omega
      · rw [if_neg c]
        refine ih ?_ (by omega)
        rcases Nat.lt_or_ge i m with z | z
        · exact z
        · exact absurd (by rw [show m = i by omega]; exact h) c
  exact key _ (by omega) (by have := hF.1; omega)
theorem rPfF_key {a w : Int} : ∀ m : Nat, rPfF R a w m = -1 ∨ ((0 ≤ rPfF R a w m ∧ rPfF R a w m < m) ∧ R 55 (rPfF R a w m).toNat = rPfOrg R ∧ R 56 (rPfF R a w m).toNat = a ∧ R 57 (rPfF R a w m).toNat = R 63 0 ∧ R 58 (rPfF R a w m).toNat = w) := by
  intro m
  induction m with
  | zero => exact Or.inl rfl
  | succ m ih =>
    rw [rPfF]
    by_cases c : R 55 m = rPfOrg R ∧ R 56 m = a ∧ R 57 m = R 63 0 ∧ R 58 m = w
    · rw [if_pos c]
      refine Or.inr ⟨by omega, ?_⟩
      rw [Int.toNat_natCast]
      exact c
    · rw [if_neg c]
      rcases ih with z | z
      · exact Or.inl z
      · exact Or.inr ⟨by omega, z.2⟩
theorem rPfFd_key (hF : rkFs R) {a w : Int} (h : ¬ rPfFd R a w = -1) : (0 ≤ rPfFd R a w ∧ rPfFd R a w < R 54 0) ∧ R 55 (rPfFd R a w).toNat = rPfOrg R ∧ R 56 (rPfFd R a w).toNat = a ∧ R 57 (rPfFd R a w).toNat = R 63 0 ∧ R 58 (rPfFd R a w).toNat = w := by
  have h0 := hF.1
  rcases rPfF_key (R := R) (a := a) (w := w) (R 54 0).toNat with z | z
  · exact absurd z h
  · unfold rPfFd
    exact ⟨by omega, z.2⟩
/-- none is kept for the same -/
theorem rkF_miss (hA : ∀ i, 0 ≤ i → i < R 7 0 → gI G 300 (rkAt G (B 2) i) = i) (hF : rkF G B R) {y : Nat} {a w : Int} (hy : gI G 1200 y = rkOg (rPfOrg R) ∧ gP G 1201 y = some (rkAt G (B 2) a) ∧ gI G 1202 y = R 63 0 ∧ gI G 1203 y = rkPm w) (ho : rkFk R (rPfOrg R) a (R 63 0) w) (hno : ∀ x ∈ gL G (B 5), ¬ rkSm G x y) : rPfHit R a w = false ∧ (¬ rPfFd R a w = -1 → ¬ R 0 0 < R 60 (rPfFd R a w).toNat) := by
  have h2 : ¬ rPfFd R a w = -1 → ¬ R 0 0 < R 60 (rPfFd R a w).toNat := fun z z2 => by
    obtain ⟨k1, k2⟩ := rPfFd_key hF.2.2.2.2.2 z
    obtain ⟨x, x1, x2⟩ := hF.2.2.2.1 _ k1.1 k1.2 z2
    exact hno x x1 ((rkSm_key hA x2 (hF.2.2.2.2.2.2.1 _ (by omega)) hy ho).mpr k2)
  refine ⟨?_, h2⟩
  unfold rPfHit
  exact decide_eq_false (fun z => h2 z.1 z.2.1)
/-- one is -/
theorem rkF_hit (hA : ∀ i, 0 ≤ i → i < R 7 0 → gI G 300 (rkAt G (B 2) i) = i) (hF : rkF G B R) {x y : Nat} {a w : Int} (hy : gI G 1200 y = rkOg (rPfOrg R) ∧ gP G 1201 y = some (rkAt G (B 2) a) ∧ gI G 1202 y = R 63 0 ∧ gI G 1203 y = rkPm w) (ho : rkFk R (rPfOrg R) a (R 63 0) w) (hx : x ∈ gL G (B 5)) (hs : rkSm G x y) : (0 ≤ rPfFd R a w ∧ rPfFd R a w < R 54 0) ∧ rkPf G B R (rPfFd R a w) x ∧ R 0 0 < R 60 (rPfFd R a w).toNat ∧ rPfHit R a w = decide (iand (gI G 1204 x) (rPfNeeds R) = rPfNeeds R) := by
  obtain ⟨k, k1, k2, k3⟩ := hF.2.2.1 x hx
  have key := (rkSm_key hA k2 (hF.2.2.2.2.2.2.1 _ (by omega)) hy ho).mp hs
  have h1 := rPfF_one hF.2.2.2.2.2 (a := a) (w := w) (i := k.toNat) (by omega) key
  have h2 : rPfFd R a w = k := by omega
  rw [h2]
  refine ⟨k1, k2, k3, ?_⟩
  unfold rPfHit
  rw [h2, k2.2.2.2.2.2.1]
  by_cases c : iand (R 59 k.toNat) (rPfNeeds R) = rPfNeeds R
  · rw [decide_eq_true c]
    exact decide_eq_true ⟨by omega, k3, c⟩
  · rw [decide_eq_false c]
    exact decide_eq_false (fun z => c z.2.2)
/-- nothing of them is touched -/
theorem rkF_fr {ks ls : List Nat} (hB : rkB G B) (hF : rkF G B R) (h : rkFr ks ls G G') (hks : ∀ k ∈ ks, k < 1200 ∨ 1206 ≤ k) (hls : B 2 ∉ ls ∧ B 5 ∉ ls) (hS : ∀ f : Nat, (54 ≤ f ∧ f ≤ 60) ∨ f = 0 ∨ f = 7 → S f = R f) (h53 : R 53 0 ≤ S 53 0) : rkF G' B S := by
  have e5 := h.2.2.1 (B 5) (by rw [hB.2.1.2.2.2.2.1]; decide) hls.2
  have e2 := h.2.2.1 (B 2) (by rw [hB.2.1.2.1]; decide) hls.1
  obtain ⟨f1, f2, f3, f4, f5, f6⟩ := hF
  have K : ∀ k x, rkPf G B R k x → rkPf G' B S k x := fun k x hx => by
    obtain ⟨x0, x1, x2, x3, x4, x5, x6⟩ := hx
    have hn : gK G x ≠ 0 := by rw [x0]; decide
    have F : ∀ f : Nat, 1200 ≤ f → f < 1206 → gI G' f x = gI G f x ∧ gP G' f x = gP G f x := fun f a b => h.2.1 f x hn (fun z => by have := hks f z; omega)
    unfold rkPf
    rw [hS 55 (by omega), hS 56 (by omega), hS 57 (by omega), hS 58 (by omega), hS 59 (by omega), hS 60 (by omega), rkAt_same e2]
    exact ⟨(h.1 x hn).trans x0, (F 1200 (by decide) (by decide)).1.trans x1, (F 1201 (by decide) (by decide)).2.trans x2, (F 1202 (by decide) (by decide)).1.trans x3, (F 1203 (by decide) (by decide)).1.trans x4, (F 1204 (by decide) (by decide)).1.trans x5, (F 1205 (by decide) (by decide)).1.trans x6⟩
  have eS : rkFs S := by
    unfold rkFs rkFk
    rw [hS 54 (by omega), hS 55 (by omega), hS 56 (by omega), hS 57 (by omega), hS 58 (by omega), hS 7 (by omega)]
    exact f6
  refine ⟨by rw [e5]; omega, by rw [e5]; exact f2, fun x hx => ?_, fun k k0 k1 hg => ?_, fun x hx y hy k k0 k1 hkx hky => ?_, eS⟩
  · rw [e5] at hx
    obtain ⟨k, k1, k2, k3⟩ := f3 x hx
    rw [hS 54 (by omega), hS 60 (by omega), hS 0 (by omega)]
    exact ⟨k, k1, K k x k2, k3⟩
  · rw [hS 54 (by omega)] at k1
    rw [hS 60 (by omega), hS 0 (by omega)] at hg
    obtain ⟨x, x1, x2⟩ := f4 k k0 k1 hg
    exact ⟨x, by rw [e5]; exact x1, K k x x2⟩
  · rw [e5] at hx hy
    rw [hS 54 (by omega)] at k1
    obtain ⟨i, i1, i2, -⟩ := f3 x hx
    obtain ⟨j, j1, j2, -⟩ := f3 y hy
    have D : ∀ (i : Int) (z : Nat), (0 ≤ i ∧ i < R 54 0) → rkPf G B R i z → rkPf G' B S k z → z ∈ gL G (B 5) → rkPf G B R k z := fun i z i1 hz hz2 hm => by
      obtain ⟨x0, x1, x2, x3, x4, x5, x6⟩ := hz2
      have hn : gK G z ≠ 0 := by rw [hz.1]; decide
      have F : ∀ f : Nat, 1200 ≤ f → f < 1206 → gI G' f z = gI G f z ∧ gP G' f z = gP G f z := fun f a b => h.2.1 f z hn (fun q => by have := hks f q; omega)
      rw [hS 55 (by omega), (F 1200 (by decide) (by decide)).1] at x1
      rw [hS 56 (by omega), (F 1201 (by decide) (by decide)).2, rkAt_same e2] at x2
      rw [hS 57 (by omega), (F 1202 (by decide) (by decide)).1] at x3
      rw [hS 58 (by omega), (F 1203 (by decide) (by decide)).1] at x4
      rw [hS 59 (by omega), (F 1204 (by decide) (by decide)).1] at x5
      rw [hS 60 (by omega), (F 1205 (by decide) (by decide)).1] at x6
      exact ⟨hz.1, x1, x2, x3, x4, x5, x6⟩
    exact f5 x hx y hy k k0 k1 (D i x i1 i2 hkx hx) (D j y j1 j2 hky hy)
end PREF
