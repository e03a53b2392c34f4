/-! what the reference's methods answer: answers, pages, sites of addresses -/
def RAd (R : RT) : Prop := ∀ a : Nat, (a : Int) < R 7 0 → (0 ≤ R 8 a ∧ R 8 a ≤ 1) ∧ (0 ≤ R 9 a ∧ R 9 a < R 3 0) ∧ (0 ≤ R 10 a ∧ R 10 a ≤ 9999) ∧ (0 ≤ R 11 a ∧ R 11 a ≤ 999) ∧ (-1 ≤ R 12 a ∧ R 12 a < R 7 0) ∧ (0 ≤ R 13 a ∧ R 13 a ≤ 4) ∧ (-3 ≤ R 14 a ∧ R 14 a < R 7 0) ∧ (-1 ≤ R 20 a ∧ R 20 a < R 3 0)
def RP (R : RT) : Prop := (0 ≤ R 24 0 ∧ R 24 0 ≤ 8) ∧ ∀ j : Nat, (j : Int) < R 24 0 → (0 ≤ R 25 j ∧ R 25 j < R 7 0) ∧ (-1 ≤ R 26 j ∧ R 26 j < j) ∧ (0 ≤ R 27 j ∧ R 27 j ≤ 4)
def rRedIs (R : RT) (a b : Int) : Bool := rIsAddress R a && (decide (b = -1) || rIsAddress R b)
def rRedC (R : RT) (a b c : Int) : Int := if rRedIs R a b = false then 1 else if rLies c 0 4 = true then 0 else 2
def rRedR (R : RT) (a b c : Int) : RT := if 0 < rRedC R a b c then rF R (rRedC R a b c) else u2 (u2 (rF R (rRedC R a b c)) 12 a.toNat b) 13 a.toNat c
def rAllIs (R : RT) (a w : Int) : Bool := rIsAddress R a && (rLies w (-3) (-1) || rIsAddress R w)
def rAllC (R : RT) (a w s t : Int) : Int := if rAllIs R a w = false then 1 else if (rLies s 0 3 && rLies t 0 1000) = true then 0 else 2
def rAllR (R : RT) (a w c s t : Int) : RT := if 0 < rAllC R a w s t then rF R (rAllC R a w s t) else u2 (u2 (u2 (u2 (rF R (rAllC R a w s t)) 14 a.toNat w) 15 a.toNat c) 16 a.toNat s) 17 a.toNat t
def rSetIs (R : RT) (a d : Int) : Bool := rIsAddress R a && (decide (d = -1) || rIsHost R d)
def rSetOk (n v w f t : Int) : Bool := rLies n 0 9 && (rLies v (-1) 999 && (rIsPath w && (rLies f 0 63 && rLies t (-1) 1000)))
def rSetC (R : RT) (a n v d w f t : Int) : Int := if rSetIs R a d = false then 1 else if rSetOk n v w f t = true then 0 else 2
def rSetR (R : RT) (a n v d w f t : Int) : RT := if 0 < rSetC R a n v d w f t then rF R (rSetC R a n v d w f t) else
  u2 (u2 (u2 (u2 (u2 (u2 (rF R (rSetC R a n v d w f t)) 18 a.toNat n) 19 a.toNat v) 20 a.toNat d) 21 a.toNat w) 22 a.toNat f) 23 a.toNat t
def rTogBR (R : RT) : RT := u2 (rF R 0) 2 0 (if R 2 0 = 0 then 1 else 0)
def rPageIs (R : RT) (a b : Int) : Bool := rIsAddress R a && (decide (b = -1) || rIsPage R b)
def rPageC (R : RT) (a b c : Int) : Int := if rPageIs R a b = false then 1 else if rLies c 0 4 = false then 2 else if R 24 0 = 8 then 3 else 0
def rPage (R : RT) (a b c : Int) : Int := if 0 < rPageC R a b c then 0 else R 24 0
def rPageR (R : RT) (a b c : Int) : RT := if 0 < rPageC R a b c then rF R (rPageC R a b c) else
  u2 (u2 (u2 (u2 (rF R (rPageC R a b c)) 25 (R 24 0).toNat a) 26 (R 24 0).toNat b) 27 (R 24 0).toNat c) 24 0 (R 24 0 + 1)
theorem rUp_in {R : RT} (hH : RH R) : ∀ (n : Nat) (b : Int), 0 ≤ b → b < R 3 0 → 0 ≤ rUp R n b ∧ rUp R n b < R 3 0 := by
  intro n
  induction n with
  | zero => intro b h0 h1; exact ⟨h0, h1⟩
  | succ n ih =>
    intro b h0 h1
    have hu := hH.2 b.toNat (by omega)
    rw [rUp]
    split
    · exact ⟨h0, h1⟩
    · rename_i c
      have c1 : ¬ R 4 b.toNat = -1 := fun z => c (Or.inl z)
      exact ih _ (by omega) (by omega)
theorem rSiteOf_in {R : RT} (hH : RH R) {x : Int} (h0 : 0 ≤ x) (h1 : x < R 3 0) : 0 ≤ rSiteOf R x ∧ rSiteOf R x < R 3 0 := by
  unfold rSiteOf
  split
  · exact ⟨h0, h1⟩
  · exact rUp_in hH 16 x h0 h1
def rPlace (R : RT) (a : Int) : Int := 16 * R 8 a.toNat + rSiteOf R (R 9 a.toNat)
theorem rPlace_in {R : RT} (hH : RH R) (hD : RAd R) {a : Int} (h0 : 0 ≤ a) (h1 : a < R 7 0) : 0 ≤ rPlace R a ∧ rPlace R a ≤ 31 := by
  obtain ⟨d1, d2, -⟩ := hD a.toNat (by omega)
  have := rSiteOf_in hH d2.1 d2.2
  have := hH.1
  unfold rPlace
  omega
def rGate (R : RT) (a : Int) : Int := if 0 < R 10 a.toNat then R 10 a.toNat else if R 8 a.toNat = 1 then 443 else 80
theorem rGate_in {R : RT} (hD : RAd R) {a : Int} (h0 : 0 ≤ a) (h1 : a < R 7 0) : 0 < rGate R a ∧ rGate R a ≤ 9999 := by
  obtain ⟨d1, d2, d3, -⟩ := hD a.toNat (by omega)
  unfold rGate
  split
  · omega
  · split <;> omega
def rSame (R : RT) (a b : Int) : Bool := decide (R 8 a.toNat = R 8 b.toNat ∧ R 9 a.toNat = R 9 b.toNat ∧ rGate R a = rGate R b)
def rTopF (R : RT) : Nat → Int → Int
  | 0, k => k
  | n + 1, k => if R 26 k.toNat = -1 then k else rTopF R n (R 26 k.toNat)
def rTop (R : RT) (k : Int) : Int := rTopF R 8 k
theorem rTopF_fuel {R : RT} (hP : RP R) : ∀ (n m : Nat) (b : Int), 0 ≤ b → b < R 24 0 → b < n → b < m → rTopF R n b = rTopF R m b := by
  intro n
  induction n with
  | zero => intro m b h0 _ h1; omega
  | succ n ih =>
    intro m b h0 hb h1 h2
    cases m with
    | zero => omega
    | succ m =>
      obtain ⟨-, hu, -⟩ := hP.2 b.toNat (by omega)
      rw [rTopF, rTopF]
      by_cases c : R 26 b.toNat = -1
      · rw [if_pos c, if_pos c]
      · rw [if_neg c, if_neg c]
        exact ih m _ (by omega) (by omega) (by omega) (by omega)
theorem rTop_step {R : RT} (hP : RP R) {b : Int} (h0 : 0 ≤ b) (hb : b < R 24 0) (h1 : ¬ R 26 b.toNat = -1) : rTop R b = rTop R (R 26 b.toNat) := by
  have hh := hP.1
  obtain ⟨-, hu, -⟩ := hP.2 b.toNat (by omega)
  unfold rTop
  rw [rTopF_fuel hP 8 9 b h0 hb (by omega) (by omega), rTopF, if_neg h1]
theorem rTop_stop {R : RT} {b : Int} (h1 : R 26 b.toNat = -1) : rTop R b = b := by
  unfold rTop
  rw [rTopF, if_pos h1]
theorem rTopF_in {R : RT} (hP : RP R) : ∀ (n : Nat) (b : Int), 0 ≤ b → b < R 24 0 → 0 ≤ rTopF R n b ∧ rTopF R n b < R 24 0 := by
  intro n
  induction n with
  | zero => intro b h0 h1; exact ⟨h0, h1⟩
  | succ n ih =>
    intro b h0 h1
    obtain ⟨-, hu, -⟩ := hP.2 b.toNat (by omega)
    rw [rTopF]
    split
    · exact ⟨h0, h1⟩
    · exact ih _ (by omega) (by omega)
/-- whether a page above has another site -/
def rForF (R : RT) (w : Int) : Nat → Int → Bool
  | 0, _ => false
  | n + 1, k => if k = -1 then false else decide (¬ rPlace R (R 25 k.toNat) = w) || rForF R w n (R 26 k.toNat)
def rFor (R : RT) (its : Int) : Bool := rForF R (rPlace R (R 25 its.toNat)) 9 (R 26 its.toNat)
theorem rForF_fuel {R : RT} (hP : RP R) (w : Int) : ∀ (n m : Nat) (b : Int), -1 ≤ b → b < R 24 0 → b + 1 < n → b + 1 < m → rForF R w n b = rForF R w m b := by
  intro n
  induction n with
  | zero => intro m b h0 _ h1; omega
  | succ n ih =>
    intro m b h0 hb h1 h2
    cases m with
    | zero => omega
    | succ m =>
      rw [rForF, rForF]
      by_cases c : b = -1
      · rw [if_pos c, if_pos c]
      · rw [if_neg c, if_neg c]
        obtain ⟨-, hu, -⟩ := hP.2 b.toNat (by omega)
        rw [ih m _ (by omega) (by omega) (by omega) (by omega)]
theorem rForF_step {R : RT} (hP : RP R) {w b : Int} (h0 : -1 ≤ b) (hb : b < R 24 0) (h1 : ¬ b = -1) : rForF R w 9 b = (decide (¬ rPlace R (R 25 b.toNat) = w) || rForF R w 9 (R 26 b.toNat)) := by
  have hh := hP.1
  obtain ⟨-, hu, -⟩ := hP.2 b.toNat (by omega)
  rw [rForF_fuel hP w 9 10 b h0 hb (by omega) (by omega), rForF, if_neg h1]
theorem rForF_top {R : RT} {w : Int} : rForF R w 9 (-1) = false := by rw [rForF, if_pos rfl]
def rIsRef (x : Int) : Bool := rLies x 1 2 || (rLies x 10 29 || (rLies x 100 299 || (rLies x 1000 2999 || rLies x 10000 29999)))
def rLetters (w : Int) : Int := if w < 26 then 1 else 2
def rLetter (w k : Int) : Int := if w < 26 then (if k = 0 then 97 + w else 32) else if k = 0 then 97 + (w - 26) / 26 else if k = 1 then 97 + (w - 26) % 26 else 32
theorem nar_c {v : Int} (h : 0 ≤ v ∧ v < 65536) : narrow .char (.int (i32 v)) = .int (i32 v) := by
  obtain ⟨q, rfl⟩ := Int.eq_ofNat_of_zero_le h.1
  rw [← i32_nI]
  exact (pk_charN (by omega)).1
