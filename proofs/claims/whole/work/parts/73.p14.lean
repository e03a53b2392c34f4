/-! rows laid by program (wip/tools/genp.py) -/
theorem rAm0 {R : RT} {k ho0 q0 : Int} (h1 : -1 ≤ R 41 k.toNat ∧ R 41 k.toNat ≤ 31) (h2 : -1 ≤ q0 ∧ q0 ≤ 31) : rAmong R k 0 (rSiteOf R ho0) q0 = (decide (rSiteOf R (R 37 k.toNat) = rSiteOf R ho0) && decide (rkPm (R 41 k.toNat) = rkPm q0)) := by
  unfold rAmong
  rw [decide_eq_false (show ¬ ¬ (0 : Int) = 0 by omega), Bool.false_or, decide_eq_decide.mpr (rkPm_inj h1 h2)]
theorem rAm1 {R : RT} {k si w : Int} : rAmong R k 1 si w = true := by
  unfold rAmong
  rw [decide_eq_true (show ¬ (1 : Int) = 0 by omega)]
  rfl
def rkTr (al si w lim : Int) : Nat → RT → RT
  | 0, R => R
  | n + 1, R => if lim < rCount R al si w (R 34 0).toNat then rkTr al si w lim n (rDrops R (rEv R al si w)) else R
theorem rkTr_1 {si w : Int} : ∀ (n : Nat) (R : RT), rkTr 0 si w 4 n R = rEs1 si w n R := by
  intro n
  induction n with
  | zero => intro R; rfl
  | succ n ih =>
    intro R
    unfold rkTr rEs1
    rw [ih]
theorem rCount_1 {R : RT} {si w : Int} : ∀ n : Nat, rCount R 1 si w n = n := by
  intro n
  induction n with
  | zero => rfl
  | succ n ih =>
    rw [rCount, ih, rAm1]
    show (n : Int) + 1 = _
    omega
theorem rkTr_2 {si w : Int} : ∀ (n : Nat) (R : RT), 0 ≤ R 34 0 → rkTr 1 si w 10 n R = rEs2 si w n R := by
  intro n
  induction n with
  | zero => intro R _; rfl
  | succ n ih =>
    intro R h
    unfold rkTr rEs2
    rw [rCount_1]
    by_cases c : 10 < R 34 0
    · rw [if_pos (by omega), if_pos c, ih _ (by rw [rDrops_34]; omega)]
    · rw [if_neg (by omega), if_neg c]
/-- the min so far -/
def rkPg (R : RT) (al si w k p : Int) : Prop := (p = -1 ∧ ∀ j : Nat, (j : Int) < k → rAmong R j al si w = true → False) ∨ rkMn R al si w p k
theorem rkPg_0 {R : RT} {al si w : Int} : rkPg R al si w 0 (-1) := Or.inl ⟨rfl, fun j hj => by omega⟩
theorem rkPg_skip {R : RT} {al si w k p : Int} (hk : 0 ≤ k) (h : rkPg R al si w k p) (hn : rAmong R k al si w = true → ¬ p = -1 ∧ rkLs R p.toNat k.toNat) : rkPg R al si w (k + 1) p := by
  rcases h with ⟨h1, h2⟩ | ⟨⟨h1, h2, h3⟩, h4⟩
  · refine Or.inl ⟨h1, fun j hj ha => ?_⟩
    by_cases c : (j : Int) = k
    · rw [c] at ha
      exact (hn ha).1 h1
    · exact h2 j (by omega) ha
  · refine Or.inr ⟨⟨h1, by omega, h3⟩, fun j hj ha => ?_⟩
    by_cases c : (j : Int) = k
    · right
      have := (hn (by rw [← c]; exact ha)).2
      rwa [show k.toNat = j by omega] at this
    · exact h4 j (by omega) ha
theorem rkPg_take {R : RT} {al si w k p : Int} (hk : 0 ≤ k) (h : rkPg R al si w k p) (ha : rAmong R k al si w = true) (hn : p = -1 ∨ rkLs R k.toNat p.toNat) : rkPg R al si w (k + 1) k := by
  refine Or.inr ⟨⟨hk, by omega, ha⟩, fun j hj hj2 => ?_⟩
  by_cases c : (j : Int) = k
  · left; omega
  · right
    rcases h with ⟨h1, h2⟩ | ⟨⟨h1, h2, h3⟩, h4⟩
    · exact (h2 j (by omega) hj2).elim
    · rcases hn with hn | hn
      · omega
      · rcases h4 j (by omega) hj2 with z | z
        · rw [z]; exact hn
        · rcases hn with ⟨q1, q2⟩ | ⟨q1, q2⟩ <;> rcases z with ⟨z1, z2⟩ | ⟨z1, z2⟩
          · exact Or.inl ⟨q1.trans z1, by omega⟩
          · exact Or.inr ⟨q1.trans z1, z2⟩
          · exact Or.inr ⟨q1, z1.symm.trans q2⟩
          · rw [q2] at z1; cases z1
set_option maxHeartbeats 2000000 in
set_option maxRecDepth 100000 in
theorem c_X6_dropGone {E : EV} {l : Launch} {G : GT} {B : Nat → Nat} {R : RT} (hB : rkB G B) (hC : rkC G B R) (hRC : RC R) (hnw : InR (R 0 0)) : MT E l yX6_dropGone cX6_dropGone 3 none 3 106 0 0 [.ref (B 6), .int (i32 (R 0 0))] (G) (fun v G' => v = none ∧ rkFr [] [B 8] G G' ∧ rkC G' B (rPassF (R 34 0).toNat R)) := by
  refine mt_of (own := RX6) (L := [some (.ref (B 6)), some (.int (i32 (R 0 0))), none]) (by decide +kernel) rfl (Nat.le_of_ble_eq_true rfl) (List.forall_mem_cons.mpr ⟨rfl, (List.forall_mem_cons.mpr ⟨rfl, (fun _ h => absurd h List.not_mem_nil)⟩)⟩) rfl ?_
  intro p e s m args below meth c C hin
  refine x_wf (fun hw => ?_)
  have hB1 := hB
  have nb6 := hB1.1.2.1
  have nk8 := hB1.2.1.2.2.2.2.2.1
  have np7 := hB1.2.2.1.2.2.2.2.2.2.2.1
  have hl8 := hC.1
  have iC1 := hRC.1
  refine x_aload_n 1 C dX6_dropGone_0 rfl rfl ?_
  refine x_getO 4 900 C fr_X6_12 dX6_dropGone_1 rfl rfl rfl rfl (by assumption) (by assumption) ?_
  refine x_callL (As := []) (ci := 2) 7 0 0 C vw_X6_18 iw_Jx4a65c_size_8abf5 sw_Jx4a65c_size_8abf5 (c_sizev (by assumption) hl8) dX6_dropGone_4 rfl rfl rfl rfl rfl (Or.inr (Or.inr ⟨rfl, (by assumption)⟩)) ⟨Nat.le_of_ble_eq_true rfl, Nat.le_of_ble_eq_true rfl⟩ (Nat.le_of_ble_eq_true rfl) ⟨Nat.le_refl _, Nat.le_refl _⟩ (fun v G' hq => ?_)
  obtain ⟨rfl, hG9⟩ := hq
  replace hG9 := hG9.symm
  subst hG9
  refine x_as rfl rfl rfl ?_
  refine x_iconst 8 C dX6_dropGone_7 rfl ?_
  refine x_isub 9 C dX6_dropGone_8 rfl ?_
  refine x_istore_n 10 C dX6_dropGone_9 rfl rfl rfl ?_
  refine x_loop (α := Int × GT × RT) (fun ⟨k, G1, S⟩ => (k + 1).toNat) (fun ⟨k, G1, S⟩ => (-1 ≤ k ∧ k < S 34 0) ∧ rPassF (k + 1).toNat S = rPassF (R 34 0).toNat R ∧ rkFr [] [B 8] G G1 ∧ rkC G1 B S ∧ RC S ∧ S 0 0 = R 0 0) (fun ⟨k, G1, S⟩ => G1) (fun ⟨k, G1, S⟩ => [some (.ref (B 6)), some (.int (i32 (R 0 0))), some (.int (i32 k))]) (fun _ => []) (R 34 0 - 1, G, R) ⟨by (try dsimp only); omega, by (try dsimp only); rw [show R 34 0 - 1 + 1 = R 34 0 by omega], fr_rfl, hC, hRC, rfl⟩ rfl rfl rfl ?_
  intro aa hI ih
  obtain ⟨k, G1, S⟩ := aa
  (try dsimp only at hI); (try dsimp only at ih); (try dsimp only)
  obtain ⟨i1, i2, i3, i4, i5, i6⟩ := hI
  have hB1 := rkB_fr hB i3 (fun k z => by cases z)
  have nb6 := hB1.1.2.1
  have nk8 := hB1.2.1.2.2.2.2.2.1
  have np7 := hB1.2.2.1.2.2.2.2.2.2.2.1
  obtain ⟨hl8, hh8, hij8, hor8, hlu8, hub8⟩ := id i4
  have iC1 := i5.1
  refine x_wf (fun hw => ?_)
  refine x_iload_n 11 C dX6_dropGone_10 rfl rfl ?_
  refine x_if_lt 14 47 C dX6_dropGone_11 rfl (by decide) (by first | assumption | exact ⟨by omega, by omega⟩ | exact hw.1 _ _ | omega) (fun h11 => ?_) (fun h11 => ?_)
  · skip
    exact x_ret C dX6_dropGone_47 ⟨rfl, i3, by (have hk : (k + 1).toNat = 0 := by omega); rw [hk] at i2; rw [← i2]; exact i4⟩
  · skip
    obtain ⟨tk, gok, xk, agk, prk, alk⟩ := hh8 k (by omega) (by omega)
    have xkk := xk.1
    refine x_aload_n 15 C dX6_dropGone_14 rfl rfl ?_
    refine x_getO 18 900 C fr_X6_12 dX6_dropGone_15 rfl rfl rfl rfl (by assumption) (by assumption) ?_
    refine x_iload_n 19 C dX6_dropGone_18 rfl rfl ?_
    refine x_callL (As := [_]) (ci := 2) 22 0 0 C vw_X6_22 iw_Jx4a65c_get_915e3 sw_Jx4a65c_get_915e3 (c_get (x := rkAt G1 (B 8) k) (by assumption) (by omega) (rkAt_get hl8 (by omega) (by omega))) dX6_dropGone_19 rfl rfl rfl rfl rfl (Or.inr (Or.inr ⟨rfl, (by assumption)⟩)) ⟨Nat.le_of_ble_eq_true rfl, Nat.le_of_ble_eq_true rfl⟩ (Nat.le_of_ble_eq_true rfl) ⟨Nat.le_refl _, Nat.le_refl _⟩ (fun v G' hq => ?_)
    obtain ⟨rfl, hG9⟩ := hq
    replace hG9 := hG9.symm
    subst hG9
    refine x_as rfl rfl rfl ?_
    refine x_cast 25 C ck_X6_26 rfl rfl xkk dX6_dropGone_22 rfl ?_
    refine x_iload_n 26 C dX6_dropGone_25 rfl rfl ?_
    refine x_callV (As := [_]) 29 5 0 0 C vw_X6_28 iw_X2_isGone sw_X2_isGone (c_X2_isGone hnw xk) dX6_dropGone_26 rfl rfl rfl rfl rfl rfl (by assumption) ⟨Nat.le_of_ble_eq_true rfl, Nat.le_of_ble_eq_true rfl⟩ (Nat.le_of_ble_eq_true rfl) ⟨Nat.le_refl _, Nat.le_refl _⟩ (fun v G' hq => ?_)
    obtain ⟨rfl, hG9⟩ := hq
    replace hG9 := hG9.symm
    subst hG9
    refine x_as rfl rfl rfl ?_
    refine x_if_eqB 32 41 C dX6_dropGone_29 rfl (by decide) (fun h29 => ?_) (fun h29 => ?_)
    · skip
      have hgo : ¬ (¬ S 42 k.toNat = -1 ∧ S 42 k.toNat ≤ S 0 0) := fun z => by (rw [decide_eq_true (show ¬ tk = 0 by omega), decide_eq_true (show gok ≤ R 0 0 by omega)] at h29; cases h29)
      refine x_iinc 44 C dX6_dropGone_41 rfl rfl rfl rfl ?_
      refine x_goto 10 C dX6_dropGone_44 (by decide) ?_
      first | (have hst : rPassF (k + -1 + 1).toNat S = rPassF (R 34 0).toNat R := (by (rw [← i2, show (k + 1).toNat = k.toNat + 1 by omega, rPassF, if_neg hgo, show (k + -1 + 1).toNat = k.toNat by omega])); exact ih (k + -1, G1, S) ⟨by (try dsimp only); omega, hst, i3, i4, i5, i6⟩ (by (try dsimp only); omega)) | (have hst : rPassF (k + -1 + 1).toNat (rDrops S k) = rPassF (R 34 0).toNat R := (by (rw [← i2, show (k + 1).toNat = k.toNat + 1 by omega, rPassF, if_pos hgo, show (k + -1 + 1).toNat = k.toNat by omega, show ((k.toNat : Nat) : Int) = k by omega])); exact ih (k + -1, _, rDrops S k) ⟨by (try dsimp only); rw [rDrops_34]; omega, hst, fr_sL List.mem_cons_self i3, rkC_drop hB1 i4 ⟨by omega, by omega⟩ (fr_sL List.mem_cons_self fr_rfl) sL_s, rDrops_C i5 ⟨by omega, by omega⟩, (rDrops_out (R := S) (i := k) (f := 0) (Or.inl (by decide)) 0).trans i6⟩ (by (try dsimp only); omega))
    · skip
      have h29a := (Bool.and_eq_true _ _).mp h29
      have h29b := of_decide_eq_true h29a.1
      have h29c := of_decide_eq_true h29a.2
      have hgo : ¬ S 42 k.toNat = -1 ∧ S 42 k.toNat ≤ S 0 0 := by omega
      refine x_aload_n 33 C dX6_dropGone_32 rfl rfl ?_
      refine x_getO 36 900 C fr_X6_12 dX6_dropGone_33 rfl rfl rfl rfl (by assumption) (by assumption) ?_
      refine x_iload_n 37 C dX6_dropGone_36 rfl rfl ?_
      refine x_as (st' := [.int (i32 ((k.toNat : Nat) : Int)), .ref (B 8)]) rfl rfl (by rw [Int.toNat_of_nonneg (by omega)]; try rfl) ?_
      refine x_callL (As := [_]) (ci := 2) 40 0 0 C vw_X6_32 iw_Jx4a65c_remove_915e3 sw_Jx4a65c_remove_915e3 (c_remove (i := k.toNat) (x := rkAt G1 (B 8) k) (by assumption) (rkAt_get hl8 (by omega) (by omega)) (fun x hx => by (obtain ⟨i, i0, i1, rfl⟩ := rkAt_mem hl8 hx; have := rkC_k i4 i0 i1; omega))) dX6_dropGone_37 rfl rfl rfl rfl rfl (Or.inr (Or.inr ⟨rfl, (by assumption)⟩)) ⟨Nat.le_of_ble_eq_true rfl, Nat.le_of_ble_eq_true rfl⟩ (Nat.le_of_ble_eq_true rfl) ⟨Nat.le_refl _, Nat.le_refl _⟩ (fun v G' hq => ?_)
      obtain ⟨rfl, hG9⟩ := hq
      replace hG9 := hG9.symm
      subst hG9
      refine x_as rfl rfl rfl ?_
      refine x_pop 41 C dX6_dropGone_40 rfl rfl ?_
      refine x_iinc 44 C dX6_dropGone_41 rfl rfl rfl rfl ?_
      refine x_goto 10 C dX6_dropGone_44 (by decide) ?_
      first | (have hst : rPassF (k + -1 + 1).toNat S = rPassF (R 34 0).toNat R := (by (rw [← i2, show (k + 1).toNat = k.toNat + 1 by omega, rPassF, if_neg hgo, show (k + -1 + 1).toNat = k.toNat by omega])); exact ih (k + -1, G1, S) ⟨by (try dsimp only); omega, hst, i3, i4, i5, i6⟩ (by (try dsimp only); omega)) | (have hst : rPassF (k + -1 + 1).toNat (rDrops S k) = rPassF (R 34 0).toNat R := (by (rw [← i2, show (k + 1).toNat = k.toNat + 1 by omega, rPassF, if_pos hgo, show (k + -1 + 1).toNat = k.toNat by omega, show ((k.toNat : Nat) : Int) = k by omega])); exact ih (k + -1, _, rDrops S k) ⟨by (try dsimp only); rw [rDrops_34]; omega, hst, fr_sL List.mem_cons_self i3, rkC_drop hB1 i4 ⟨by omega, by omega⟩ (fr_sL List.mem_cons_self fr_rfl) sL_s, rDrops_C i5 ⟨by omega, by omega⟩, (rDrops_out (R := S) (i := k) (f := 0) (Or.inl (by decide)) 0).trans i6⟩ (by (try dsimp only); omega))
set_option maxHeartbeats 2000000 in
set_option maxRecDepth 100000 in
theorem c_X6_placeToGoY {E : EV} {l : Launch} {G : GT} {B : Nat → Nat} {R : RT} (hW : rkW G B R) (hC : rkC G B R) (hRC : RC R) (hUd : rkCd R) {y : Nat} {n0 v0 w0 f0 t0 ho0 al0 q0 go0 : Int} (hy : rkCo G B y n0 v0 w0 f0 t0 ho0 al0 (rkPm q0) go0) (ho2 : 0 ≤ ho0 ∧ ho0 < R 3 0) (hq0 : -1 ≤ q0 ∧ q0 ≤ 31)  : MT E l yX6_placeToGo cX6_placeToGo 7 (some .int) 3 64 0 0 [.ref (B 6), .ref y] (G) (fun v G' => ∃ p1 : Int, v = some (.int (i32 p1)) ∧ G' = G ∧ (-1 ≤ p1 ∧ p1 < R 34 0) ∧ rkPg R 0 (rSiteOf R ho0) q0 (R 34 0) p1) := by
  refine mt_of (own := RX6) (L := [some (.ref (B 6)), some (.ref y), none, none, none, none, none]) (by decide +kernel) rfl (Nat.le_of_ble_eq_true rfl) (List.forall_mem_cons.mpr ⟨rfl, (List.forall_mem_cons.mpr ⟨rfl, (fun _ h => absurd h List.not_mem_nil)⟩)⟩) rfl ?_
  intro p e s m args below meth c C hin
  refine x_wf (fun hw => ?_)
  obtain ⟨hB, hH, hA, hP, hI⟩ := id hW
  obtain ⟨⟨b0, b6, b7⟩, ⟨bk1, bk2, bk3, bk4, bk5, bk8, bk9⟩, ⟨bp0, bp1, bp2, bp3, bp4, bp5, bp6, bp7, bp8⟩, -⟩ := id hB
  obtain ⟨hl1, hh1⟩ := id hH
  obtain ⟨hl2, hh2⟩ := id hA
  obtain ⟨hl3, hh3⟩ := id hP
  obtain ⟨iH, iA, iAd, iHl, iP, iS, hRw, iU⟩ := id hI
  have iH1 := iH.1
  have iA1 := iA.1
  have iA2 := iA.2
  have iP1 := iP.1
  obtain ⟨hl8, hh8, hij8, hor8, hlu8, hub8⟩ := id hC
  have iC1 := hRC.1
  refine x_iconst 1 C dX6_placeToGo_0 rfl ?_
  refine x_istore_n 2 C dX6_placeToGo_1 rfl rfl rfl ?_
  refine x_null 3 C dX6_placeToGo_2 rfl ?_
  refine x_astore_nq 4 C dX6_placeToGo_3 rfl rfl rfl ?_
  refine x_iconst 5 C dX6_placeToGo_4 rfl ?_
  refine x_istore 7 C dX6_placeToGo_5 rfl rfl rfl ?_
  refine x_loop (α := Int × Int) (fun ⟨k, p1⟩ => (12 - k).toNat) (fun ⟨k, p1⟩ => 0 ≤ k ∧ k ≤ R 34 0 ∧ (-1 ≤ p1 ∧ p1 < R 34 0) ∧ (¬ p1 = -1 → p1 < k) ∧ rkPg R 0 (rSiteOf R ho0) q0 k p1) (fun ⟨k, p1⟩ => G) (fun ⟨k, p1⟩ => [some (.ref (B 6)), some (.ref y), some (.int (i32 p1)), some (va_rf (rkOp G (B 8) p1)), some (.int (i32 k)), none, none]) (fun _ => []) (0, -1) ⟨by (try dsimp only); omega, by (try dsimp only); omega, by (try dsimp only); omega, fun z => (z rfl).elim, rkPg_0⟩ rfl (by (try dsimp only); rw [rkOp_n]; rfl) rfl ?_
  intro aa hI ih
  obtain ⟨k, p1⟩ := aa
  (try dsimp only at hI); (try dsimp only at ih); (try dsimp only)
  obtain ⟨i1, i2, i3, i4, i5⟩ := hI
  refine x_iload 9 C dX6_placeToGo_7 rfl rfl ?_
  refine x_aload_n 10 C dX6_placeToGo_9 rfl rfl ?_
  refine x_getO 13 900 C fr_X6_12 dX6_placeToGo_10 rfl rfl rfl rfl (by assumption) (by assumption) ?_
  refine x_callL (As := []) (ci := 2) 16 0 0 C vw_X6_18 iw_Jx4a65c_size_8abf5 sw_Jx4a65c_size_8abf5 (c_sizev (by assumption) hl8) dX6_placeToGo_13 rfl rfl rfl rfl rfl (Or.inr (Or.inr ⟨rfl, (by assumption)⟩)) ⟨Nat.le_of_ble_eq_true rfl, Nat.le_of_ble_eq_true rfl⟩ (Nat.le_of_ble_eq_true rfl) ⟨Nat.le_refl _, Nat.le_refl _⟩ (fun v G' hq => ?_)
  obtain ⟨rfl, hG9⟩ := hq
  replace hG9 := hG9.symm
  subst hG9
  refine x_as rfl rfl rfl ?_
  refine x_icmp_ge 19 83 C dX6_placeToGo_16 rfl (by decide) (by first | exact hRw _ _ | assumption | exact ⟨by omega, by omega⟩ | exact hw.1 _ _ | omega) (by first | exact hRw _ _ | assumption | exact ⟨by omega, by omega⟩ | exact hw.1 _ _ | omega) (fun h16 => ?_) (fun h16 => ?_)
  · skip
    refine x_iload_n 84 C dX6_placeToGo_83 rfl rfl ?_
    exact x_iret C dX6_placeToGo_84 rfl ⟨p1, rfl, rfl, i3, by rw [show R 34 0 = k by omega]; exact i5⟩
  · skip
    obtain ⟨tk, gok, xk, agk, prk, alk⟩ := hh8 k i1 (by omega)
    obtain ⟨uk1, uk2, uk3, uk4⟩ := hRC.2 k.toNat (by omega)
    have xkk := xk.1
    refine x_aload_n 20 C dX6_placeToGo_19 rfl rfl ?_
    refine x_getO 23 900 C fr_X6_12 dX6_placeToGo_20 rfl rfl rfl rfl (by assumption) (by assumption) ?_
    refine x_iload 25 C dX6_placeToGo_23 rfl rfl ?_
    refine x_callL (As := [_]) (ci := 2) 28 0 0 C vw_X6_22 iw_Jx4a65c_get_915e3 sw_Jx4a65c_get_915e3 (c_get (x := rkAt G (B 8) k) (by assumption) (by omega) (rkAt_get hl8 (by omega) (by omega))) dX6_placeToGo_25 rfl rfl rfl rfl rfl (Or.inr (Or.inr ⟨rfl, (by assumption)⟩)) ⟨Nat.le_of_ble_eq_true rfl, Nat.le_of_ble_eq_true rfl⟩ (Nat.le_of_ble_eq_true rfl) ⟨Nat.le_refl _, Nat.le_refl _⟩ (fun v G' hq => ?_)
    obtain ⟨rfl, hG9⟩ := hq
    replace hG9 := hG9.symm
    subst hG9
    refine x_as rfl rfl rfl ?_
    refine x_cast 31 C ck_X6_26 rfl rfl xkk dX6_placeToGo_28 rfl ?_
    refine x_astore 33 C dX6_placeToGo_31 rfl rfl rfl ?_
    refine x_joinv 51 (fun vJ => vJ = bI (decide (rSiteOf R (R 37 k.toNat) = rSiteOf R ho0) && decide (rkPm (R 41 k.toNat) = rkPm q0))) ?_ (fun hJ51 => ?_)
    · intro vJ hJ
      subst hJ
      refine x_istore 53 C dX6_placeToGo_51 rfl rfl rfl ?_
      refine x_iload 55 C dX6_placeToGo_53 rfl rfl ?_
      refine x_if_eqB 58 77 C dX6_placeToGo_55 rfl (by decide) (fun h55 => ?_) (fun h55 => ?_)
      · skip
        have hsk : rAmong R k 0 (rSiteOf R ho0) q0 = true → ¬ p1 = -1 ∧ rkLs R p1.toNat k.toNat := fun z => by (rw [rAm0 prk hq0] at z; rw [z] at h55; cases h55)
        refine x_iinc 80 C dX6_placeToGo_77 rfl rfl rfl rfl ?_
        refine x_goto 7 C dX6_placeToGo_80 (by decide) ?_
        first | (have hpg := rkPg_skip i1 i5 hsk; refine x_as rfl rfl rfl (x_less ?_ (ih (k + 1, p1) ⟨by (try dsimp only); omega, by (try dsimp only); omega, i3, fun z => by have := i4 z; (try dsimp only); omega, hpg⟩ (by (try dsimp only); omega))); exact ⟨rfl, rfl, rfl, rfl, rfl, trivial⟩) | (have hpg := rkPg_take i1 i5 htk htn; refine x_as rfl rfl rfl (x_less (L' := [some (.ref (B 6)), some (.ref y), some (.int (i32 k)), some (va_rf (rkOp G (B 8) k)), some (.int (i32 (k + 1))), none, none]) ?_ (ih (k + 1, k) ⟨by (try dsimp only); omega, by (try dsimp only); omega, by (try dsimp only); omega, fun z => by (try dsimp only); omega, hpg⟩ (by (try dsimp only); omega))); exact ⟨rfl, rfl, rfl, by rw [rkOp_s i1]; rfl, rfl, trivial⟩)
      · skip
        have htk : rAmong R k 0 (rSiteOf R ho0) q0 = true := (rAm0 prk hq0).trans h55
        refine x_aload_nq 59 C dX6_placeToGo_58 rfl rfl ?_
        refine x_ifnull 62 71 C dX6_placeToGo_59 rfl (by decide) (fun h59 => ?_) (fun a59 h59 => ?_)
        · skip
          have n59 := rkOp_none h59
          have htn : p1 = -1 ∨ rkLs R k.toNat p1.toNat := Or.inl n59
          refine x_iload 73 C dX6_placeToGo_71 rfl rfl ?_
          refine x_istore_n 74 C dX6_placeToGo_73 rfl rfl rfl ?_
          refine x_aload 76 C dX6_placeToGo_74 rfl rfl ?_
          refine x_astore_n 77 C dX6_placeToGo_76 rfl rfl rfl ?_
          refine x_iinc 80 C dX6_placeToGo_77 rfl rfl rfl rfl ?_
          refine x_goto 7 C dX6_placeToGo_80 (by decide) ?_
          first | (have hpg := rkPg_skip i1 i5 hsk; refine x_as rfl rfl rfl (x_less ?_ (ih (k + 1, p1) ⟨by (try dsimp only); omega, by (try dsimp only); omega, i3, fun z => by have := i4 z; (try dsimp only); omega, hpg⟩ (by (try dsimp only); omega))); exact ⟨rfl, rfl, rfl, rfl, rfl, trivial⟩) | (have hpg := rkPg_take i1 i5 htk htn; refine x_as rfl rfl rfl (x_less (L' := [some (.ref (B 6)), some (.ref y), some (.int (i32 k)), some (va_rf (rkOp G (B 8) k)), some (.int (i32 (k + 1))), none, none]) ?_ (ih (k + 1, k) ⟨by (try dsimp only); omega, by (try dsimp only); omega, by (try dsimp only); omega, fun z => by (try dsimp only); omega, hpg⟩ (by (try dsimp only); omega))); exact ⟨rfl, rfl, rfl, by rw [rkOp_s i1]; rfl, rfl, trivial⟩)
        · skip
          have n59 := rkOp_some h59
          obtain ⟨tp1, gop1, xp1, agp1, prp1, alp1⟩ := hh8 p1 (by omega) (by omega)
          obtain ⟨up11, up12, up13, up14⟩ := hRC.2 p1.toNat (by omega)
          have xkp1 := xp1.1
          have hord := hor8 k p1 ⟨by omega, by omega⟩ ⟨by omega, by omega⟩
          refine x_aload 64 C dX6_placeToGo_62 rfl rfl ?_
          refine x_aload_n (x := rkAt G (B 8) p1) 65 C dX6_placeToGo_64 rfl (congrArg (fun z => some (some z)) (vrf_s (by omega))) ?_
          refine x_callV (As := [_]) 68 5 0 0 C vw_X6_185 iw_X2_goesBefore sw_X2_goesBefore (c_X2_goesBefore xk xp1 rfl rfl) dX6_placeToGo_65 rfl rfl rfl rfl rfl rfl (by assumption) ⟨Nat.le_of_ble_eq_true rfl, Nat.le_of_ble_eq_true rfl⟩ (Nat.le_of_ble_eq_true rfl) ⟨Nat.le_refl _, Nat.le_refl _⟩ (fun v G' hq => ?_)
          obtain ⟨rfl, hG9⟩ := hq
          replace hG9 := hG9.symm
          subst hG9
          refine x_as rfl rfl rfl ?_
          refine x_if_eqB 71 77 C dX6_placeToGo_68 rfl (by decide) (fun h68 => ?_) (fun h68 => ?_)
          · skip
            have hle := hor8 p1 k ⟨by omega, by omega⟩ ⟨by omega, by omega⟩
            have hsk : rAmong R k 0 (rSiteOf R ho0) q0 = true → ¬ p1 = -1 ∧ rkLs R p1.toNat k.toNat := fun _ => ⟨n59.1, by (unfold rkLs; split at h68; exact Or.inl ⟨(by rename_i he; exact he.symm), by (have hn9 := of_decide_eq_false h68; have hdd := hUd k.toNat p1.toNat (by omega) (by omega); have hi4 := i4 n59.1; omega)⟩; exact Or.inr (by (have hb : rHas (R 40 k.toNat) 1 = true := (by simpa using h68); exact ⟨by (cases q : rHas (R 40 p1.toNat) 1; rfl; exfalso; rename_i hne; exact hne (hb.trans q.symm)), hb⟩)))⟩
            refine x_iinc 80 C dX6_placeToGo_77 rfl rfl rfl rfl ?_
            refine x_goto 7 C dX6_placeToGo_80 (by decide) ?_
            first | (have hpg := rkPg_skip i1 i5 hsk; refine x_as rfl rfl rfl (x_less ?_ (ih (k + 1, p1) ⟨by (try dsimp only); omega, by (try dsimp only); omega, i3, fun z => by have := i4 z; (try dsimp only); omega, hpg⟩ (by (try dsimp only); omega))); exact ⟨rfl, rfl, rfl, rfl, rfl, trivial⟩) | (have hpg := rkPg_take i1 i5 htk htn; refine x_as rfl rfl rfl (x_less (L' := [some (.ref (B 6)), some (.ref y), some (.int (i32 k)), some (va_rf (rkOp G (B 8) k)), some (.int (i32 (k + 1))), none, none]) ?_ (ih (k + 1, k) ⟨by (try dsimp only); omega, by (try dsimp only); omega, by (try dsimp only); omega, fun z => by (try dsimp only); omega, hpg⟩ (by (try dsimp only); omega))); exact ⟨rfl, rfl, rfl, by rw [rkOp_s i1]; rfl, rfl, trivial⟩)
          · skip
            have htn : p1 = -1 ∨ rkLs R k.toNat p1.toNat := by (right; unfold rkLs; split at h68; exact Or.inl ⟨by assumption, hord.mp (of_decide_eq_true h68)⟩; exact Or.inr (by (have hb : rHas (R 40 k.toNat) 1 = false := (by simpa using h68); exact ⟨hb, by (cases q : rHas (R 40 p1.toNat) 1; exfalso; rename_i hne; exact hne (hb.trans q.symm); rfl)⟩)))
            refine x_iload 73 C dX6_placeToGo_71 rfl rfl ?_
            refine x_istore_n 74 C dX6_placeToGo_73 rfl rfl rfl ?_
            refine x_aload 76 C dX6_placeToGo_74 rfl rfl ?_
            refine x_astore_n 77 C dX6_placeToGo_76 rfl rfl rfl ?_
            refine x_iinc 80 C dX6_placeToGo_77 rfl rfl rfl rfl ?_
            refine x_goto 7 C dX6_placeToGo_80 (by decide) ?_
            first | (have hpg := rkPg_skip i1 i5 hsk; refine x_as rfl rfl rfl (x_less ?_ (ih (k + 1, p1) ⟨by (try dsimp only); omega, by (try dsimp only); omega, i3, fun z => by have := i4 z; (try dsimp only); omega, hpg⟩ (by (try dsimp only); omega))); exact ⟨rfl, rfl, rfl, rfl, rfl, trivial⟩) | (have hpg := rkPg_take i1 i5 htk htn; refine x_as rfl rfl rfl (x_less (L' := [some (.ref (B 6)), some (.ref y), some (.int (i32 k)), some (va_rf (rkOp G (B 8) k)), some (.int (i32 (k + 1))), none, none]) ?_ (ih (k + 1, k) ⟨by (try dsimp only); omega, by (try dsimp only); omega, by (try dsimp only); omega, fun z => by (try dsimp only); omega, hpg⟩ (by (try dsimp only); omega))); exact ⟨rfl, rfl, rfl, by rw [rkOp_s i1]; rfl, rfl, trivial⟩)
    · skip
      refine x_aload_n 34 C dX6_placeToGo_33 rfl rfl ?_
      refine x_ifnull (r := some _) 37 46 C dX6_placeToGo_34 rfl (by decide) (fun z => by cases z) (fun _ _ => ?_)
      refine x_aload 39 C dX6_placeToGo_37 rfl rfl ?_
      refine x_aload_n 40 C dX6_placeToGo_39 rfl rfl ?_
      refine x_callV (As := [_]) 43 5 0 0 C vw_X6_179 iw_X2_sharesLimitWith sw_X2_sharesLimitWith (c_X2_sharesLimitWith hW xk hy uk1 ho2) dX6_placeToGo_40 rfl rfl rfl rfl rfl rfl (by assumption) ⟨Nat.le_of_ble_eq_true rfl, Nat.le_of_ble_eq_true rfl⟩ (Nat.le_of_ble_eq_true rfl) ⟨Nat.le_refl _, Nat.le_refl _⟩ (fun v G' hq => ?_)
      obtain ⟨rfl, hG9⟩ := hq
      replace hG9 := hG9.symm
      subst hG9
      refine x_as rfl rfl rfl ?_
      refine x_if_eqB 46 50 C dX6_placeToGo_43 rfl (by decide) (fun h43 => ?_) (fun h43 => ?_)
      · skip
        refine x_iconst 51 C dX6_placeToGo_50 rfl ?_
        exact hJ51 _ (by first | (rw [h43]; rfl))
      · skip
        refine x_iconst 47 C dX6_placeToGo_46 rfl ?_
        refine x_goto 51 C dX6_placeToGo_47 (by decide) ?_
        exact hJ51 _ (by first | (rw [h43]; rfl))
set_option maxHeartbeats 2000000 in
set_option maxRecDepth 100000 in
theorem c_X6_placeToGoN {E : EV} {l : Launch} {G : GT} {B : Nat → Nat} {R : RT} (hW : rkW G B R) (hC : rkC G B R) (hRC : RC R) (hUd : rkCd R) {si w : Int}  : MT E l yX6_placeToGo cX6_placeToGo 7 (some .int) 3 64 0 0 [.ref (B 6), va_rf none] (G) (fun v G' => ∃ p1 : Int, v = some (.int (i32 p1)) ∧ G' = G ∧ (-1 ≤ p1 ∧ p1 < R 34 0) ∧ rkPg R 1 si w (R 34 0) p1) := by
  refine mt_of (own := RX6) (L := [some (.ref (B 6)), some (va_rf none), none, none, none, none, none]) (by decide +kernel) rfl (Nat.le_trans (Nat.le_of_eq (sl_len (List.forall_mem_cons.mpr ⟨rfl, (List.forall_mem_cons.mpr ⟨cat_rf, (fun _ h => absurd h List.not_mem_nil)⟩)⟩))) (Nat.le_of_ble_eq_true rfl)) (List.forall_mem_cons.mpr ⟨rfl, (List.forall_mem_cons.mpr ⟨cat_rf, (fun _ h => absurd h List.not_mem_nil)⟩)⟩) rfl ?_
  intro p e s m args below meth c C hin
  refine x_wf (fun hw => ?_)
  obtain ⟨hB, hH, hA, hP, hI⟩ := id hW
  obtain ⟨⟨b0, b6, b7⟩, ⟨bk1, bk2, bk3, bk4, bk5, bk8, bk9⟩, ⟨bp0, bp1, bp2, bp3, bp4, bp5, bp6, bp7, bp8⟩, -⟩ := id hB
  obtain ⟨hl1, hh1⟩ := id hH
  obtain ⟨hl2, hh2⟩ := id hA
  obtain ⟨hl3, hh3⟩ := id hP
  obtain ⟨iH, iA, iAd, iHl, iP, iS, hRw, iU⟩ := id hI
  have iH1 := iH.1
  have iA1 := iA.1
  have iA2 := iA.2
  have iP1 := iP.1
  obtain ⟨hl8, hh8, hij8, hor8, hlu8, hub8⟩ := id hC
  have iC1 := hRC.1
  refine x_iconst 1 C dX6_placeToGo_0 rfl ?_
  refine x_istore_n 2 C dX6_placeToGo_1 rfl rfl rfl ?_
  refine x_null 3 C dX6_placeToGo_2 rfl ?_
  refine x_astore_nq 4 C dX6_placeToGo_3 rfl rfl rfl ?_
  refine x_iconst 5 C dX6_placeToGo_4 rfl ?_
  refine x_istore 7 C dX6_placeToGo_5 rfl rfl rfl ?_
  refine x_loop (α := Int × Int) (fun ⟨k, p1⟩ => (12 - k).toNat) (fun ⟨k, p1⟩ => 0 ≤ k ∧ k ≤ R 34 0 ∧ (-1 ≤ p1 ∧ p1 < R 34 0) ∧ (¬ p1 = -1 → p1 < k) ∧ rkPg R 1 si w k p1) (fun ⟨k, p1⟩ => G) (fun ⟨k, p1⟩ => [some (.ref (B 6)), some (va_rf none), some (.int (i32 p1)), some (va_rf (rkOp G (B 8) p1)), some (.int (i32 k)), none, none]) (fun _ => []) (0, -1) ⟨by (try dsimp only); omega, by (try dsimp only); omega, by (try dsimp only); omega, fun z => (z rfl).elim, rkPg_0⟩ rfl (by (try dsimp only); rw [rkOp_n]; rfl) rfl ?_
  intro aa hI ih
  obtain ⟨k, p1⟩ := aa
  (try dsimp only at hI); (try dsimp only at ih); (try dsimp only)
  obtain ⟨i1, i2, i3, i4, i5⟩ := hI
  refine x_iload 9 C dX6_placeToGo_7 rfl rfl ?_
  refine x_aload_n 10 C dX6_placeToGo_9 rfl rfl ?_
  refine x_getO 13 900 C fr_X6_12 dX6_placeToGo_10 rfl rfl rfl rfl (by assumption) (by assumption) ?_
  refine x_callL (As := []) (ci := 2) 16 0 0 C vw_X6_18 iw_Jx4a65c_size_8abf5 sw_Jx4a65c_size_8abf5 (c_sizev (by assumption) hl8) dX6_placeToGo_13 rfl rfl rfl rfl rfl (Or.inr (Or.inr ⟨rfl, (by assumption)⟩)) ⟨Nat.le_of_ble_eq_true rfl, Nat.le_of_ble_eq_true rfl⟩ (Nat.le_of_ble_eq_true rfl) ⟨Nat.le_refl _, Nat.le_refl _⟩ (fun v G' hq => ?_)
  obtain ⟨rfl, hG9⟩ := hq
  replace hG9 := hG9.symm
  subst hG9
  refine x_as rfl rfl rfl ?_
  refine x_icmp_ge 19 83 C dX6_placeToGo_16 rfl (by decide) (by first | exact hRw _ _ | assumption | exact ⟨by omega, by omega⟩ | exact hw.1 _ _ | omega) (by first | exact hRw _ _ | assumption | exact ⟨by omega, by omega⟩ | exact hw.1 _ _ | omega) (fun h16 => ?_) (fun h16 => ?_)
  · skip
    refine x_iload_n 84 C dX6_placeToGo_83 rfl rfl ?_
    exact x_iret C dX6_placeToGo_84 rfl ⟨p1, rfl, rfl, i3, by rw [show R 34 0 = k by omega]; exact i5⟩
  · skip
    obtain ⟨tk, gok, xk, agk, prk, alk⟩ := hh8 k i1 (by omega)
    obtain ⟨uk1, uk2, uk3, uk4⟩ := hRC.2 k.toNat (by omega)
    have xkk := xk.1
    refine x_aload_n 20 C dX6_placeToGo_19 rfl rfl ?_
    refine x_getO 23 900 C fr_X6_12 dX6_placeToGo_20 rfl rfl rfl rfl (by assumption) (by assumption) ?_
    refine x_iload 25 C dX6_placeToGo_23 rfl rfl ?_
    refine x_callL (As := [_]) (ci := 2) 28 0 0 C vw_X6_22 iw_Jx4a65c_get_915e3 sw_Jx4a65c_get_915e3 (c_get (x := rkAt G (B 8) k) (by assumption) (by omega) (rkAt_get hl8 (by omega) (by omega))) dX6_placeToGo_25 rfl rfl rfl rfl rfl (Or.inr (Or.inr ⟨rfl, (by assumption)⟩)) ⟨Nat.le_of_ble_eq_true rfl, Nat.le_of_ble_eq_true rfl⟩ (Nat.le_of_ble_eq_true rfl) ⟨Nat.le_refl _, Nat.le_refl _⟩ (fun v G' hq => ?_)
    obtain ⟨rfl, hG9⟩ := hq
    replace hG9 := hG9.symm
    subst hG9
    refine x_as rfl rfl rfl ?_
    refine x_cast 31 C ck_X6_26 rfl rfl xkk dX6_placeToGo_28 rfl ?_
    refine x_astore 33 C dX6_placeToGo_31 rfl rfl rfl ?_
    refine x_aload_nq 34 C dX6_placeToGo_33 rfl rfl ?_
    refine x_ifnull 37 46 C dX6_placeToGo_34 rfl (by decide) (fun _ => ?_) (fun _ z => by cases z)
    refine x_iconst 47 C dX6_placeToGo_46 rfl ?_
    refine x_goto 51 C dX6_placeToGo_47 (by decide) ?_
    refine x_istore 53 C dX6_placeToGo_51 rfl rfl rfl ?_
    refine x_iload 55 C dX6_placeToGo_53 rfl rfl ?_
    refine x_if_eq 58 77 C dX6_placeToGo_55 rfl (by decide) (by first | exact hRw _ _ | assumption | exact ⟨by omega, by omega⟩ | exact hw.1 _ _ | omega) (fun h55 => ?_) (fun h55 => ?_)
    · skip
      exact absurd h55 (by decide)
    · skip
      have htk : rAmong R k 1 si w = true := rAm1
      refine x_aload_nq 59 C dX6_placeToGo_58 rfl rfl ?_
      refine x_ifnull 62 71 C dX6_placeToGo_59 rfl (by decide) (fun h59 => ?_) (fun a59 h59 => ?_)
      · skip
        have n59 := rkOp_none h59
        have htn : p1 = -1 ∨ rkLs R k.toNat p1.toNat := Or.inl n59
        refine x_iload 73 C dX6_placeToGo_71 rfl rfl ?_
        refine x_istore_n 74 C dX6_placeToGo_73 rfl rfl rfl ?_
        refine x_aload 76 C dX6_placeToGo_74 rfl rfl ?_
        refine x_astore_n 77 C dX6_placeToGo_76 rfl rfl rfl ?_
        refine x_iinc 80 C dX6_placeToGo_77 rfl rfl rfl rfl ?_
        refine x_goto 7 C dX6_placeToGo_80 (by decide) ?_
        first | (have hpg := rkPg_skip i1 i5 hsk; refine x_as rfl rfl rfl (x_less ?_ (ih (k + 1, p1) ⟨by (try dsimp only); omega, by (try dsimp only); omega, i3, fun z => by have := i4 z; (try dsimp only); omega, hpg⟩ (by (try dsimp only); omega))); exact ⟨rfl, rfl, rfl, rfl, rfl, trivial⟩) | (have hpg := rkPg_take i1 i5 htk htn; refine x_as rfl rfl rfl (x_less (L' := [some (.ref (B 6)), some (va_rf none), some (.int (i32 k)), some (va_rf (rkOp G (B 8) k)), some (.int (i32 (k + 1))), none, none]) ?_ (ih (k + 1, k) ⟨by (try dsimp only); omega, by (try dsimp only); omega, by (try dsimp only); omega, fun z => by (try dsimp only); omega, hpg⟩ (by (try dsimp only); omega))); exact ⟨rfl, rfl, rfl, by rw [rkOp_s i1]; rfl, rfl, trivial⟩)
      · skip
        have n59 := rkOp_some h59
        obtain ⟨tp1, gop1, xp1, agp1, prp1, alp1⟩ := hh8 p1 (by omega) (by omega)
        obtain ⟨up11, up12, up13, up14⟩ := hRC.2 p1.toNat (by omega)
        have xkp1 := xp1.1
        have hord := hor8 k p1 ⟨by omega, by omega⟩ ⟨by omega, by omega⟩
        refine x_aload 64 C dX6_placeToGo_62 rfl rfl ?_
        refine x_aload_n (x := rkAt G (B 8) p1) 65 C dX6_placeToGo_64 rfl (congrArg (fun z => some (some z)) (vrf_s (by omega))) ?_
        refine x_callV (As := [_]) 68 5 0 0 C vw_X6_185 iw_X2_goesBefore sw_X2_goesBefore (c_X2_goesBefore xk xp1 rfl rfl) dX6_placeToGo_65 rfl rfl rfl rfl rfl rfl (by assumption) ⟨Nat.le_of_ble_eq_true rfl, Nat.le_of_ble_eq_true rfl⟩ (Nat.le_of_ble_eq_true rfl) ⟨Nat.le_refl _, Nat.le_refl _⟩ (fun v G' hq => ?_)
        obtain ⟨rfl, hG9⟩ := hq
        replace hG9 := hG9.symm
        subst hG9
        refine x_as rfl rfl rfl ?_
        refine x_if_eqB 71 77 C dX6_placeToGo_68 rfl (by decide) (fun h68 => ?_) (fun h68 => ?_)
        · skip
          have hle := hor8 p1 k ⟨by omega, by omega⟩ ⟨by omega, by omega⟩
          have hsk : rAmong R k 1 si w = true → ¬ p1 = -1 ∧ rkLs R p1.toNat k.toNat := fun _ => ⟨n59.1, by (unfold rkLs; split at h68; exact Or.inl ⟨(by rename_i he; exact he.symm), by (have hn9 := of_decide_eq_false h68; have hdd := hUd k.toNat p1.toNat (by omega) (by omega); have hi4 := i4 n59.1; omega)⟩; exact Or.inr (by (have hb : rHas (R 40 k.toNat) 1 = true := (by simpa using h68); exact ⟨by (cases q : rHas (R 40 p1.toNat) 1; rfl; exfalso; rename_i hne; exact hne (hb.trans q.symm)), hb⟩)))⟩
          refine x_iinc 80 C dX6_placeToGo_77 rfl rfl rfl rfl ?_
          refine x_goto 7 C dX6_placeToGo_80 (by decide) ?_
          first | (have hpg := rkPg_skip i1 i5 hsk; refine x_as rfl rfl rfl (x_less ?_ (ih (k + 1, p1) ⟨by (try dsimp only); omega, by (try dsimp only); omega, i3, fun z => by have := i4 z; (try dsimp only); omega, hpg⟩ (by (try dsimp only); omega))); exact ⟨rfl, rfl, rfl, rfl, rfl, trivial⟩) | (have hpg := rkPg_take i1 i5 htk htn; refine x_as rfl rfl rfl (x_less (L' := [some (.ref (B 6)), some (va_rf none), some (.int (i32 k)), some (va_rf (rkOp G (B 8) k)), some (.int (i32 (k + 1))), none, none]) ?_ (ih (k + 1, k) ⟨by (try dsimp only); omega, by (try dsimp only); omega, by (try dsimp only); omega, fun z => by (try dsimp only); omega, hpg⟩ (by (try dsimp only); omega))); exact ⟨rfl, rfl, rfl, by rw [rkOp_s i1]; rfl, rfl, trivial⟩)
        · skip
          have htn : p1 = -1 ∨ rkLs R k.toNat p1.toNat := by (right; unfold rkLs; split at h68; exact Or.inl ⟨by assumption, hord.mp (of_decide_eq_true h68)⟩; exact Or.inr (by (have hb : rHas (R 40 k.toNat) 1 = false := (by simpa using h68); exact ⟨hb, by (cases q : rHas (R 40 p1.toNat) 1; exfalso; rename_i hne; exact hne (hb.trans q.symm); rfl)⟩)))
          refine x_iload 73 C dX6_placeToGo_71 rfl rfl ?_
          refine x_istore_n 74 C dX6_placeToGo_73 rfl rfl rfl ?_
          refine x_aload 76 C dX6_placeToGo_74 rfl rfl ?_
          refine x_astore_n 77 C dX6_placeToGo_76 rfl rfl rfl ?_
          refine x_iinc 80 C dX6_placeToGo_77 rfl rfl rfl rfl ?_
          refine x_goto 7 C dX6_placeToGo_80 (by decide) ?_
          first | (have hpg := rkPg_skip i1 i5 hsk; refine x_as rfl rfl rfl (x_less ?_ (ih (k + 1, p1) ⟨by (try dsimp only); omega, by (try dsimp only); omega, i3, fun z => by have := i4 z; (try dsimp only); omega, hpg⟩ (by (try dsimp only); omega))); exact ⟨rfl, rfl, rfl, rfl, rfl, trivial⟩) | (have hpg := rkPg_take i1 i5 htk htn; refine x_as rfl rfl rfl (x_less (L' := [some (.ref (B 6)), some (va_rf none), some (.int (i32 k)), some (va_rf (rkOp G (B 8) k)), some (.int (i32 (k + 1))), none, none]) ?_ (ih (k + 1, k) ⟨by (try dsimp only); omega, by (try dsimp only); omega, by (try dsimp only); omega, fun z => by (try dsimp only); omega, hpg⟩ (by (try dsimp only); omega))); exact ⟨rfl, rfl, rfl, by rw [rkOp_s i1]; rfl, rfl, trivial⟩)
