/-! rows laid by program (wip/tools/genp.py) -/
def rkTold (G G' : GT) (B : Nat → Nat) (R : RT) (s1 h p1 w : Int) : Prop := (G' = G ∧ ¬ rFnd R s1 h p1 w = -1) ∨ (rFnd R s1 h p1 w = -1 ∧ R 7 0 < 24 ∧ ∃ (a q : Nat), gK G a = 0 ∧ rkFr [] [B 2] G G' ∧ gL G' (B 2) = gL G (B 2) ++ [a] ∧ rkNf R G' B a q (R 7 0) s1 (rkAt G (B 1) h) h p1 w)
theorem rIsH_t {R : RT} {b : Int} : rIsHost R b = true ↔ (0 ≤ b ∧ b ≤ R 3 0 - 1) := rLs_t
theorem rIsA_t {R : RT} {b : Int} : rIsAddress R b = true ↔ (0 ≤ b ∧ b ≤ R 7 0 - 1) := rLs_t
theorem rAOk_t {a c d : Int} : rAOk a c d = true ↔ ((0 ≤ a ∧ a ≤ 1) ∧ (0 ≤ c ∧ c ≤ 9999) ∧ rIsPath d = true) := by simp [rAOk, rLies, and_assoc]
theorem rAFound_t {R : RT} {a b c d : Int} (h : rIsHost R b = true) (h2 : rAOk a c d = true) : rAFound R a b c d = rTells R a b c d := by
  unfold rAFound
  rw [h, h2]
  exact if_pos rfl
theorem rACode_1 {R : RT} {a b c d : Int} (h : ¬ (0 ≤ b ∧ b ≤ R 3 0 - 1)) : rACode R a b c d = 1 := if_pos (rbf (fun z => h (rIsH_t.mp z)))
theorem rACode_2 {R : RT} {a b c d : Int} (h : 0 ≤ b ∧ b ≤ R 3 0 - 1) (h2 : ¬ ((0 ≤ a ∧ a ≤ 1) ∧ (0 ≤ c ∧ c ≤ 9999) ∧ rIsPath d = true)) : rACode R a b c d = 2 := (if_neg (by rw [rIsH_t.mpr h]; decide)).trans (if_pos (rbf (fun z => h2 (rAOk_t.mp z))))
theorem rACode_3 {R : RT} {a b c d : Int} (h : 0 ≤ b ∧ b ≤ R 3 0 - 1) (h2 : (0 ≤ a ∧ a ≤ 1) ∧ (0 ≤ c ∧ c ≤ 9999) ∧ rIsPath d = true) (h3 : rTells R a b c d = -1) : rACode R a b c d = 3 := (if_neg (by rw [rIsH_t.mpr h]; decide)).trans ((if_neg (by rw [rAOk_t.mpr h2]; decide)).trans (if_pos (by rw [rAFound_t (rIsH_t.mpr h) (rAOk_t.mpr h2)]; exact h3)))
theorem rACode_0 {R : RT} {a b c d : Int} (h : 0 ≤ b ∧ b ≤ R 3 0 - 1) (h2 : (0 ≤ a ∧ a ≤ 1) ∧ (0 ≤ c ∧ c ≤ 9999) ∧ rIsPath d = true) (h3 : ¬ rTells R a b c d = -1) : rACode R a b c d = 0 := (if_neg (by rw [rIsH_t.mpr h]; decide)).trans ((if_neg (by rw [rAOk_t.mpr h2]; decide)).trans (if_neg (by rw [rAFound_t (rIsH_t.mpr h) (rAOk_t.mpr h2)]; exact h3)))
theorem rIsPath_in {d : Int} (h : rIsPath d = true) : 0 ≤ d ∧ d ≤ 999 := by have := rIsPath_t.mp h; omega
/-- the fold over a reference's digits -/
def rkPbF : Nat → Int → Int → Int
  | 0, _, x => x
  | m + 1, r, x => rkPbF m r (if r / rKk (m + 1) % 10 = 0 then x / 10 else 10 * x + r / rKk (m + 1) % 10)
def rkPb (w r : Int) : Int := rkPbF (rPm r) r (if r < 2 * rPw r then w / 10 else 0)
theorem rkPbF_step {m : Nat} {r x : Int} (h : 0 < m) : rkPbF m r x = rkPbF (m - 1) r (if r / rKk m % 10 = 0 then x / 10 else 10 * x + r / rKk m % 10) := by
  cases m with
  | zero => omega
  | succ m => rfl
def rkV (S : RT) : Nat → Int
  | 0 => 0
  | n + 1 => 10 * rkV S n + S 70 n
theorem rkV_u {S : RT} {j : Nat} {d : Int} : ∀ n : Nat, n ≤ j → rkV (u2 S 70 j d) n = rkV S n := by
  intro n
  induction n with
  | zero => intro _; rfl
  | succ n ih =>
    intro h
    show 10 * rkV (u2 S 70 j d) n + u2 S 70 j d 70 n = 10 * rkV S n + S 70 n
    rw [ih (by omega), u2_a (by omega)]
def rkDg (S : RT) (n : Int) : Prop := ∀ j : Nat, (j : Int) < n → 1 ≤ S 70 j ∧ S 70 j ≤ 9
theorem rkV_pos {S : RT} : ∀ n : Nat, rkDg S n → 0 ≤ rkV S n := by
  intro n
  induction n with
  | zero => intro _; exact Int.le_refl 0
  | succ n ih =>
    intro h
    have h1 := ih (fun j hj => h j (by omega))
    have h2 := h n (by omega)
    show 0 ≤ 10 * rkV S n + S 70 n
    omega
theorem rZ3_V : ∀ (m : Nat) (r : Int) (S : RT) (n : Int), 0 ≤ r → 0 ≤ n → rkDg S n → rkPbF m r (rkV S n.toNat) = rkV (rZ3 m r (S, n)).1 (rZ3 m r (S, n)).2.toNat ∧ 0 ≤ (rZ3 m r (S, n)).2 ∧ rkDg (rZ3 m r (S, n)).1 (rZ3 m r (S, n)).2 := by
  intro m
  induction m with
  | zero => intro r S n h0 h1 h2; exact ⟨rfl, h1, h2⟩
  | succ m ih =>
    intro r S n h0 h1 h2
    have hp := (rKk_pos (m := m + 1)).mpr (by omega)
    have hd : 0 ≤ r / rKk (m + 1) := Int.ediv_nonneg h0 (by omega)
    obtain ⟨q, hq⟩ : ∃ q, q = r / rKk (m + 1) := ⟨_, rfl⟩
    show rkPbF m r (if r / rKk (m + 1) % 10 = 0 then rkV S n.toNat / 10 else 10 * rkV S n.toNat + r / rKk (m + 1) % 10) = _ ∧ _
    rw [rZ3]
    rw [← hq] at hd ⊢
    by_cases c : 0 < q % 10
    · rw [if_pos c, if_neg (by omega)]
      have e : 10 * rkV S n.toNat + q % 10 = rkV (u2 S 70 n.toNat (q % 10)) (n + 1).toNat := by
        rw [show (n + 1).toNat = n.toNat + 1 by omega]
        show _ = 10 * rkV (u2 S 70 n.toNat (q % 10)) n.toNat + u2 S 70 n.toNat (q % 10) 70 n.toNat
        rw [rkV_u _ (Nat.le_refl _), u2_s]
      rw [e]
      refine ih r _ (n + 1) h0 (by omega) (fun j hj => ?_)
      by_cases cj : j = n.toNat
      · subst cj
        rw [u2_s]
        omega
      · rw [u2_a cj]
        exact h2 j (by omega)
    · rw [if_neg c, if_pos (by omega)]
      by_cases cn : 0 < n
      · rw [if_pos cn]
        have e : rkV S n.toNat / 10 = rkV S (n - 1).toNat := by
          rw [show n.toNat = (n - 1).toNat + 1 by omega]
          show (10 * rkV S (n - 1).toNat + S 70 (n - 1).toNat) / 10 = _
          have := h2 (n - 1).toNat (by omega)
          omega
        rw [e]
        exact ih r S (n - 1) h0 (by omega) (fun j hj => h2 j (by omega))
      · rw [if_neg cn]
        have e : rkV S n.toNat / 10 = rkV S n.toNat := by
          rw [show n.toNat = 0 by omega]
          rfl
        rw [e]
        exact ih r S n h0 h1 h2
theorem rkV_big {S : RT} : ∀ n : Nat, rkDg S (n : Int) → (n ≤ 3 → rkV S n ≤ 999) ∧ (4 ≤ n → 1000 ≤ rkV S n) := by
  intro n h
  refine ⟨fun h3 => ?_, fun h4 => ?_⟩
  · have hn : n = 0 ∨ n = 1 ∨ n = 2 ∨ n = 3 := by omega
    rcases hn with rfl | rfl | rfl | rfl
    · show (0 : Int) ≤ 999
      decide
    · have := h 0 (by omega)
      show 10 * 0 + S 70 0 ≤ 999
      omega
    · have := h 0 (by omega)
      have := h 1 (by omega)
      show 10 * (10 * 0 + S 70 0) + S 70 1 ≤ 999
      omega
    · have := h 0 (by omega)
      have := h 1 (by omega)
      have := h 2 (by omega)
      show 10 * (10 * (10 * 0 + S 70 0) + S 70 1) + S 70 2 ≤ 999
      omega
  · have key : ∀ k : Nat, (k + 4 : Nat) ≤ n → 1000 ≤ rkV S (k + 4) := by
      intro k
      induction k with
      | zero =>
        intro _
        have := h 0 (by omega)
        have := h 1 (by omega)
        have := h 2 (by omega)
        have := h 3 (by omega)
        show 1000 ≤ 10 * (10 * (10 * (10 * 0 + S 70 0) + S 70 1) + S 70 2) + S 70 3
        omega
      | succ k ih =>
        intro hk
        have h1 := ih (by omega)
        have h2 := h (k + 4) (by omega)
        show 1000 ≤ 10 * rkV S (k + 4) + S 70 (k + 4)
        omega
    have := key (n - 4) (by omega)
    rwa [show n - 4 + 4 = n by omega] at this
theorem rWay_V {S : RT} {n : Int} (h0 : 0 ≤ n) (h3 : n ≤ 3) : rWay S n = rkV S n.toNat := by
  have hn : n = 0 ∨ n = 1 ∨ n = 2 ∨ n = 3 := by omega
  unfold rWay
  rcases hn with rfl | rfl | rfl | rfl
  · rfl
  · show S 70 0 = 10 * 0 + S 70 0
    omega
  · show 10 * S 70 0 + S 70 1 = 10 * (10 * 0 + S 70 0) + S 70 1
    omega
  · show 100 * S 70 0 + 10 * S 70 1 + S 70 2 = 10 * (10 * (10 * 0 + S 70 0) + S 70 1) + S 70 2
    omega
theorem rkPb_rsd {R : RT} {a r : Int} (hp : rIsPath (R 11 a.toNat) = true) (hr : rIsRef r = true) : (999 < rkPb (R 11 a.toNat) r ∧ rRsd R a r = -1) ∨ (rkPb (R 11 a.toNat) r ≤ 999 ∧ 0 ≤ rkPb (R 11 a.toNat) r ∧ rRsd R a r = rkPb (R 11 a.toNat) r) := by
  obtain ⟨w, hw⟩ : ∃ w, w = R 11 a.toNat := ⟨_, rfl⟩
  rw [← hw] at hp ⊢
  have hpt := rIsPath_t.mp hp
  have hc := rPw_c hr
  have hz : ∃ (S : RT) (n : Int), rZ0 R a r = (S, n) ∧ 0 ≤ n ∧ rkDg S n ∧ rkV S n.toNat = if r < 2 * rPw r then w / 10 else 0 := by
    unfold rZ0
    rw [← hw]
    have hd : (r / rPw r = 1 ↔ r < 2 * rPw r) := by
      rcases hc with ⟨q1, q2, q3⟩ | ⟨q1, q2, q3⟩ | ⟨q1, q2, q3⟩ | ⟨q1, q2, q3⟩ | ⟨q1, q2, q3⟩ <;> rw [q3] <;> omega
    by_cases c : r < 2 * rPw r
    · rw [if_pos (hd.mpr c), if_pos c]
      unfold rZw
      by_cases c1 : 99 < w
      · rw [if_pos c1]
        refine ⟨_, _, rfl, by omega, fun j hj => ?_, ?_⟩
        · have hj2 : j = 0 ∨ j = 1 := by omega
          rcases hj2 with rfl | rfl
          · rw [u2_a (by omega), u2_s]
            omega
          · rw [u2_s]
            omega
        · show 10 * (10 * 0 + u2 (u2 R 70 0 (w / 100 % 10)) 70 1 (w / 10 % 10) 70 0) + u2 (u2 R 70 0 (w / 100 % 10)) 70 1 (w / 10 % 10) 70 1 = _
          rw [u2_s, u2_a (by omega), u2_s]
          omega
      · rw [if_neg c1]
        by_cases c2 : 9 < w
        · rw [if_pos c2]
          refine ⟨_, _, rfl, by omega, fun j hj => ?_, ?_⟩
          · have hj2 : j = 0 := by omega
            subst hj2
            rw [u2_s]
            omega
          · show 10 * 0 + u2 R 70 0 (w / 10 % 10) 70 0 = _
            rw [u2_s]
            omega
        · rw [if_neg c2]
          exact ⟨_, _, rfl, Int.le_refl 0, fun j hj => by omega, by show (0 : Int) = _; omega⟩
    · rw [if_neg (fun z => c (hd.mp z)), if_neg c]
      exact ⟨_, _, rfl, Int.le_refl 0, fun j hj => by omega, rfl⟩
  obtain ⟨S, n, e1, e2, e3, e4⟩ := hz
  obtain ⟨g1, g2, g3⟩ := rZ3_V (rPm r) r S n (by omega) e2 e3
  unfold rkPb rRsd rZ
  rw [e1, ← e4, g1]
  have hb := rkV_big (S := (rZ3 (rPm r) r (S, n)).1) (rZ3 (rPm r) r (S, n)).2.toNat (by rw [Int.toNat_of_nonneg g2]; exact g3)
  have hv := rkV_pos (S := (rZ3 (rPm r) r (S, n)).1) (rZ3 (rPm r) r (S, n)).2.toNat (by rw [Int.toNat_of_nonneg g2]; exact g3)
  by_cases c : 3 < (rZ3 (rPm r) r (S, n)).2
  · rw [if_pos c]
    have := hb.2 (by omega)
    exact Or.inl ⟨by omega, rfl⟩
  · rw [if_neg c, rWay_V g2 (by omega)]
    have := hb.1 (by omega)
    exact Or.inr ⟨this, hv, rfl⟩
set_option maxHeartbeats 2000000 in
set_option maxRecDepth 100000 in
theorem c_X11_pathBehind {E : EV} {l : Launch} {G : GT} {w r : Int} (hw1 : 0 ≤ w ∧ w ≤ 999) (hr : rIsRef r = true) : MT E l yX11_pathBehind cX11_pathBehind 6 (some .int) 0 0 0 0 [.int (i32 w), .int (i32 r), .int (i32 (rPw r))] (G) (pD (some (.int (i32 (rkPb w r)))) (G)) := by
  refine mt_of (own := RX11) (L := [some (.int (i32 w)), some (.int (i32 r)), some (.int (i32 (rPw r))), none, none, none]) (by decide +kernel) rfl (Nat.le_of_ble_eq_true rfl) (List.forall_mem_cons.mpr ⟨rfl, (List.forall_mem_cons.mpr ⟨rfl, (List.forall_mem_cons.mpr ⟨rfl, (fun _ h => absurd h List.not_mem_nil)⟩)⟩)⟩) rfl ?_
  intro p e s m args below meth c C hin
  refine x_wf (fun hw => ?_)
  have hc := rPw_c hr
  have hpm := rPm_in r
  have hkp := rKk_pm r
  have hxb : 0 ≤ (if r < 2 * rPw r then w / 10 else 0) ∧ (if r < 2 * rPw r then w / 10 else 0) ≤ 99 := by (split <;> omega)
  refine x_joinv 15 (fun vJ => vJ = if r < 2 * rPw r then w / 10 else 0) ?_ (fun hJ15 => ?_)
  · intro vJ hJ
    subst hJ
    refine x_istore_n 16 C dX11_pathBehind_15 rfl rfl rfl ?_
    refine x_iload_n 17 C dX11_pathBehind_16 rfl rfl ?_
    refine x_bipush 19 C dX11_pathBehind_17 rfl (by decide) ?_
    refine x_idiv 20 C dX11_pathBehind_19 rfl (by omega) ?_
    refine x_istore 22 C dX11_pathBehind_20 rfl rfl rfl ?_
    refine x_loop (α := Nat × Int) (fun ⟨mm, x⟩ => mm) (fun ⟨mm, x⟩ => rkPbF mm r x = rkPbF (rPm r) r (if r < 2 * rPw r then w / 10 else 0) ∧ 0 ≤ x ∧ ((mm = 4 ∧ x ≤ 99) ∨ (mm = 3 ∧ x ≤ 999) ∨ (mm = 2 ∧ x ≤ 9999) ∨ (mm = 1 ∧ x ≤ 99999) ∨ (mm = 0 ∧ x ≤ 999999))) (fun ⟨mm, x⟩ => G) (fun ⟨mm, x⟩ => [some (.int (i32 w)), some (.int (i32 r)), some (.int (i32 (rPw r))), some (.int (i32 x)), some (.int (i32 (rKk mm))), none]) (fun _ => []) (rPm r, if r < 2 * rPw r then w / 10 else 0) ⟨rfl, hxb.1, by (try dsimp only); omega⟩ rfl (by (try dsimp only); rw [← hkp]; rfl) rfl ?_
    intro aa hI ih
    obtain ⟨mm, x⟩ := aa
    (try dsimp only at hI); (try dsimp only at ih); (try dsimp only)
    obtain ⟨i1, i2, i3⟩ := hI
    have hkn := rKk_in mm
    have hkq := rKk_pos (m := mm)
    refine x_iload 24 C dX11_pathBehind_22 rfl rfl ?_
    refine x_iconst 25 C dX11_pathBehind_24 rfl ?_
    refine x_icmp_lt 28 67 C dX11_pathBehind_25 rfl (by decide) (by first | (rw [← hdv]; exact ⟨by omega, by omega⟩) | assumption | exact ⟨by omega, by omega⟩ | exact hw.1 _ _ | omega) (by first | (rw [← hdv]; exact ⟨by omega, by omega⟩) | assumption | exact ⟨by omega, by omega⟩ | exact hw.1 _ _ | omega) (fun h25 => ?_) (fun h25 => ?_)
    · skip
      refine x_iload_n 68 C dX11_pathBehind_67 rfl rfl ?_
      exact x_iret C dX11_pathBehind_68 rfl ⟨vi (by have h0 : mm = 0 := (by (have := rKk_pos (m := mm); omega)); subst h0; exact i1), rfl⟩
    · skip
      have hd0 : 0 ≤ r / rKk mm := Int.ediv_nonneg (by omega) (by omega)
      have hd1 : r / rKk mm ≤ r := Int.ediv_le_self _ (by omega)
      obtain ⟨dv, hdv⟩ : ∃ z, z = r / rKk mm := ⟨_, rfl⟩
      refine x_iload_n 29 C dX11_pathBehind_28 rfl rfl ?_
      refine x_iload 31 C dX11_pathBehind_29 rfl rfl ?_
      refine x_idiv 32 C dX11_pathBehind_31 rfl ⟨⟨by omega, by omega⟩, by omega, by omega⟩ ?_
      refine x_bipush 34 C dX11_pathBehind_32 rfl (by decide) ?_
      refine x_irem 35 C dX11_pathBehind_34 rfl ⟨⟨hd0, by omega⟩, by omega, by omega⟩ ?_
      refine x_istore 37 C dX11_pathBehind_35 rfl rfl rfl ?_
      refine x_joinv 56 (fun vJ => vJ = if r / rKk mm % 10 = 0 then x / 10 else 10 * x + r / rKk mm % 10) ?_ (fun hJ56 => ?_)
      · intro vJ hJ
        subst hJ
        refine x_istore_n 57 C dX11_pathBehind_56 rfl rfl rfl ?_
        refine x_iload 59 C dX11_pathBehind_57 rfl rfl ?_
        refine x_bipush 61 C dX11_pathBehind_59 rfl (by decide) ?_
        refine x_idiv 62 C dX11_pathBehind_61 rfl (by omega) ?_
        refine x_istore 64 C dX11_pathBehind_62 rfl rfl rfl ?_
        refine x_goto 22 C dX11_pathBehind_64 (by decide) ?_
        refine x_as rfl rfl rfl (x_less ?_ (x_as rfl (by rw [← rKk_div (m := mm) (by omega)]) rfl (ih (mm - 1, if r / rKk mm % 10 = 0 then x / 10 else 10 * x + r / rKk mm % 10) ⟨by (try dsimp only); rw [← i1, rkPbF_step (m := mm) (by omega)], by (try dsimp only); rw [← hdv]; split <;> omega, by (try dsimp only); rw [← hdv]; split <;> omega⟩ (by (try dsimp only); omega)))); exact ⟨rfl, rfl, rfl, rfl, rfl, trivial⟩
      · skip
        refine x_iload 39 C dX11_pathBehind_37 rfl rfl ?_
        refine x_if_ne 42 49 C dX11_pathBehind_39 rfl (by decide) (by rw [← hdv]; exact ⟨by omega, by omega⟩) (fun h39 => ?_) (fun h39 => ?_)
        · skip
          rw [← hdv] at h39
          refine x_bipush 51 C dX11_pathBehind_49 rfl (by decide) ?_
          refine x_iload_n 52 C dX11_pathBehind_51 rfl rfl ?_
          refine x_imul 53 C dX11_pathBehind_52 rfl ?_
          refine x_iload 55 C dX11_pathBehind_53 rfl rfl ?_
          refine x_iadd 56 C dX11_pathBehind_55 rfl ?_
          exact hJ56 _ (by rw [← hdv]; first | rw [if_pos (by omega)] | rw [if_neg (by omega)])
        · skip
          rw [← hdv] at h39
          refine x_iload_n 43 C dX11_pathBehind_42 rfl rfl ?_
          refine x_bipush 45 C dX11_pathBehind_43 rfl (by decide) ?_
          refine x_idiv 46 C dX11_pathBehind_45 rfl (by omega) ?_
          refine x_goto 56 C dX11_pathBehind_46 (by decide) ?_
          exact hJ56 _ (by rw [← hdv]; first | rw [if_pos (by omega)] | rw [if_neg (by omega)])
  · skip
    refine x_iload_n 1 C dX11_pathBehind_0 rfl rfl ?_
    refine x_iconst 2 C dX11_pathBehind_1 rfl ?_
    refine x_iload_n 3 C dX11_pathBehind_2 rfl rfl ?_
    refine x_imul 4 C dX11_pathBehind_3 rfl ?_
    refine x_icmp_ge 7 14 C dX11_pathBehind_4 rfl (by decide) (by first | (rw [← hdv]; exact ⟨by omega, by omega⟩) | assumption | exact ⟨by omega, by omega⟩ | exact hw.1 _ _ | omega) (by first | (rw [← hdv]; exact ⟨by omega, by omega⟩) | assumption | exact ⟨by omega, by omega⟩ | exact hw.1 _ _ | omega) (fun h4 => ?_) (fun h4 => ?_)
    · skip
      refine x_iconst 15 C dX11_pathBehind_14 rfl ?_
      exact hJ15 _ (by first | (exfalso; omega) | rw [if_pos (by omega)] | rw [if_neg (by omega)])
    · skip
      refine x_iload_n 8 C dX11_pathBehind_7 rfl rfl ?_
      refine x_bipush 10 C dX11_pathBehind_8 rfl (by decide) ?_
      refine x_idiv 11 C dX11_pathBehind_10 rfl (by omega) ?_
      refine x_goto 15 C dX11_pathBehind_11 (by decide) ?_
      exact hJ15 _ (by first | (exfalso; omega) | rw [if_pos (by omega)] | rw [if_neg (by omega)])
