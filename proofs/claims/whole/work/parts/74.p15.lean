/-! rows laid by program (wip/tools/genp.py) -/
theorem rkU_R {R S : RT} (h : Fs R S) (hU : rkU R) : rkU S := by
  unfold rkU
  rw [h 3 (by decide) (by decide), h 4 (by decide) (by decide), h 5 (by decide) (by decide), h 7 (by decide) (by decide), h 8 (by decide) (by decide), h 9 (by decide) (by decide), h 10 (by decide) (by decide), h 11 (by decide) (by decide)]
  exact hU
theorem rDepth_R {R S : RT} (h : Fs R S) : ∀ (n : Nat) (b : Int), rDepth S n b = rDepth R n b := by
  intro n
  induction n with
  | zero => intro b; rfl
  | succ n ih =>
    intro b
    unfold rDepth
    rw [h 4 (by decide) (by decide), ih]
theorem rHtF_R {R S : RT} (h : Fs R S) : ∀ (n : Nat) (b : Int), rkHtF S n b = rkHtF R n b := by
  intro n
  induction n with
  | zero => intro b; rfl
  | succ n ih =>
    intro b
    unfold rkHtF
    rw [h 4 (by decide) (by decide), h 5 (by decide) (by decide), ih]
theorem rSignF_R {R S : RT} (h : Fs R S) (a : Int) : ∀ (n : Nat) (q k : Int), rSignF S a n q k = rSignF R a n q k := by
  intro n
  induction n with
  | zero => intro q k; rfl
  | succ n ih =>
    intro q k
    unfold rSignF rBeh rBeh2
    rw [h 4 (by decide) (by decide), h 5 (by decide) (by decide), h 10 (by decide) (by decide), h 11 (by decide) (by decide)]
    simp only [ih]
theorem rSign_R {R S : RT} (h : Fs R S) (a k : Int) : rSign S a k = rSign R a k := by
  unfold rSign
  rw [h 8 (by decide) (by decide), h 9 (by decide) (by decide)]
  simp only [rSignF_R h]
theorem rkW_R {G : GT} {B : Nat → Nat} {R S : RT} (hW : rkW G B R) (h : Fs R S) (hr : ∀ k j, InR (S k j)) : rkW G B S := by
  obtain ⟨hB, ⟨h1, h2⟩, ⟨a1, a2⟩, ⟨p1, p2⟩, iH, iA, iAd, iHl, iP, iS, -, iU⟩ := hW
  have E : ∀ f, f < 28 → f ≠ 1 → S f = R f := h
  refine ⟨hB, ⟨by rw [E 3 (by decide) (by decide)]; exact h1, fun i i0 i1 => ?_⟩, ⟨by rw [E 7 (by decide) (by decide)]; exact a1, fun i i0 i1 => ?_⟩, ⟨by rw [E 24 (by decide) (by decide)]; exact p1, fun i i0 i1 => ?_⟩, h.H iH, h.A iA, h.Ad iAd, h.Hl iHl, h.P iP, h.S iS, hr, rkU_R h iU⟩
  · rw [E 3 (by decide) (by decide)] at i1
    have := h2 i i0 i1
    unfold rkHo rDep
    unfold rkHo rDep at this
    rw [E 4 (by decide) (by decide), E 5 (by decide) (by decide), E 6 (by decide) (by decide), rDepth_R h]
    exact this
  · rw [E 7 (by decide) (by decide)] at i1
    have := a2 i i0 i1
    unfold rkAd rkTx rkAll rkOrg rGate rkLn
    unfold rkAd rkTx rkAll rkOrg rGate rkLn at this
    simp only [rSign_R h]
    rw [E 8 (by decide) (by decide), E 9 (by decide) (by decide), E 10 (by decide) (by decide), E 11 (by decide) (by decide), E 12 (by decide) (by decide), E 13 (by decide) (by decide), E 14 (by decide) (by decide), E 15 (by decide) (by decide), E 16 (by decide) (by decide), E 17 (by decide) (by decide), E 18 (by decide) (by decide), E 19 (by decide) (by decide), E 20 (by decide) (by decide), E 21 (by decide) (by decide), E 22 (by decide) (by decide), E 23 (by decide) (by decide)]
    exact this
  · rw [E 24 (by decide) (by decide)] at i1
    have := p2 i i0 i1
    unfold rkPa
    unfold rkPa at this
    rw [E 25 (by decide) (by decide), E 26 (by decide) (by decide), E 27 (by decide) (by decide)]
    exact this
theorem InR_drop {R : RT} {i : Int} (hC : RC R) (h34 : 1 ≤ R 34 0) (hr : ∀ k j, InR (R k j)) : ∀ k j, InR (rDrops R i k j) := by
  intro k j
  have hn := hC.1
  unfold rDrops rShift
  split
  · rw [u2_k (by omega)]
    exact hr _ _
  · unfold u2
    split
    · exact ⟨by omega, by omega⟩
    · exact hr _ _
/-- what holds of the jar's rows -/
def rkJ (R : RT) : Prop := RC R ∧ rkCd R ∧ rkCu R ∧ ∀ k j, InR (R k j)
theorem rkJ_drop {R : RT} {i : Int} (h : rkJ R) (hi : 0 ≤ i ∧ i < R 34 0) : rkJ (rDrops R i) := ⟨rDrops_C h.1 hi, rkCd_drop h.1 hi h.2.1, rkCu_drop h.1 hi h.2.2.1, InR_drop h.1 (by omega) h.2.2.2⟩
theorem rkTr_step {al si w lim : Int} {R S : RT} (hC : RC S) (hc : lim < rCount S al si w (S 34 0).toNat) (h0 : 0 ≤ lim) : rkTr al si w lim (S 34 0).toNat S = rkTr al si w lim (rDrops S (rEv S al si w) 34 0).toNat (rDrops S (rEv S al si w)) := by
  have hn := hC.1
  have hci := rCount_in S al si w (S 34 0).toNat
  rw [show (S 34 0).toNat = (S 34 0 - 1).toNat + 1 by omega, rkTr, if_pos hc, rDrops_34]
theorem rkTr_stop {al si w lim : Int} {S : RT} (hc : ¬ lim < rCount S al si w (S 34 0).toNat) : rkTr al si w lim (S 34 0).toNat S = S := by
  cases e : (S 34 0).toNat with
  | zero => rfl
  | succ n =>
    rw [rkTr, if_neg hc]
set_option maxHeartbeats 2000000 in
set_option maxRecDepth 100000 in
theorem c_X6_trimY {E : EV} {l : Launch} {G : GT} {B : Nat → Nat} {R : RT} (hW : rkW G B R) (hC : rkC G B R) (hJ : rkJ R) {y : Nat} {n0 v0 w0 f0 t0 ho0 al0 q0 go0 : Int} (hy : rkCo G B y n0 v0 w0 f0 t0 ho0 al0 (rkPm q0) go0) (ho2 : 0 ≤ ho0 ∧ ho0 < R 3 0) (hq0 : -1 ≤ q0 ∧ q0 ≤ 31)  : MT E l yX6_trim cX6_trim 5 none 4 127 0 0 [.ref (B 6), .ref y, .int (i32 4)] (G) (fun v G' => v = none ∧ ∃ S : RT, S = rkTr 0 (rSiteOf R ho0) q0 4 (R 34 0).toNat R ∧ rkFr [] [B 8] G G' ∧ rkC G' B S ∧ rkJ S ∧ Fs R S ∧ rFd R S ∧ S 1 0 = R 1 0) := by
  refine mt_of (own := RX6) (L := [some (.ref (B 6)), some (.ref y), some (.int (i32 4)), none, none]) (by decide +kernel) rfl (Nat.le_of_ble_eq_true rfl) (List.forall_mem_cons.mpr ⟨rfl, (List.forall_mem_cons.mpr ⟨rfl, (List.forall_mem_cons.mpr ⟨rfl, (fun _ h => absurd h List.not_mem_nil)⟩)⟩)⟩) rfl ?_
  intro p e s m args below meth c C hin
  refine x_wf (fun hw => ?_)
  have hRC := hJ.1
  obtain ⟨-, hUd, hUu, hRi⟩ := id hJ
  obtain ⟨hB, hH, hA, hP, hI⟩ := id hW
  obtain ⟨⟨b0, b6, b7⟩, ⟨bk1, bk2, bk3, bk4, bk5, bk8, bk9⟩, ⟨bp0, bp1, bp2, bp3, bp4, bp5, bp6, bp7, bp8⟩, -⟩ := id hB
  obtain ⟨hl1, hh1⟩ := id hH
  obtain ⟨hl2, hh2⟩ := id hA
  obtain ⟨hl3, hh3⟩ := id hP
  obtain ⟨iH, iA, iAd, iHl, iP, iS, hRw, iU⟩ := id hI
  have iH1 := iH.1
  have iA1 := iA.1
  have iA2 := iA.2
  have iP1 := iP.1
  obtain ⟨hl8, hh8, hij8, hor8, hlu8, hub8⟩ := id hC
  have iC1 := hRC.1
  refine x_iconst 1 C dX6_trim_0 rfl ?_
  refine x_istore_n 2 C dX6_trim_1 rfl rfl rfl ?_
  refine x_iconst 3 C dX6_trim_2 rfl ?_
  refine x_istore 5 C dX6_trim_3 rfl rfl rfl ?_
  refine x_loop (α := Int) (fun k => (12 - k).toNat) (fun k => 0 ≤ k ∧ k ≤ R 34 0) (fun k => G) (fun k => [some (.ref (B 6)), some (.ref y), some (.int (i32 4)), some (.int (i32 (rCount R 0 (rSiteOf R ho0) q0 k.toNat))), some (.int (i32 k))]) (fun _ => []) 0 ⟨by omega, by omega⟩ rfl rfl rfl ?_
  intro aa hI ih
  obtain ⟨k, rfl⟩ := (⟨aa, rfl⟩ : ∃ z, z = aa)
  (try dsimp only at hI); (try dsimp only at ih); (try dsimp only)
  obtain ⟨i1, i2⟩ := hI
  have hci := rCount_in R 0 (rSiteOf R ho0) q0 k.toNat
  refine x_iload 7 C dX6_trim_5 rfl rfl ?_
  refine x_aload_n 8 C dX6_trim_7 rfl rfl ?_
  refine x_getO 11 900 C fr_X6_12 dX6_trim_8 rfl rfl rfl rfl (by assumption) (by assumption) ?_
  refine x_callL (As := []) (ci := 2) 14 0 0 C vw_X6_18 iw_Jx4a65c_size_8abf5 sw_Jx4a65c_size_8abf5 (c_sizev (by assumption) hl8) dX6_trim_11 rfl rfl rfl rfl rfl (Or.inr (Or.inr ⟨rfl, (by assumption)⟩)) ⟨Nat.le_of_ble_eq_true rfl, Nat.le_of_ble_eq_true rfl⟩ (Nat.le_of_ble_eq_true rfl) ⟨Nat.le_refl _, Nat.le_refl _⟩ (fun v G' hq => ?_)
  obtain ⟨rfl, hG9⟩ := hq
  replace hG9 := hG9.symm
  subst hG9
  refine x_as rfl rfl rfl ?_
  refine x_icmp_ge 17 49 C dX6_trim_14 rfl (by decide) (by first | exact hRw _ _ | assumption | exact ⟨by omega, by omega⟩ | exact hw.1 _ _ | omega) (by first | exact hRw _ _ | assumption | exact ⟨by omega, by omega⟩ | exact hw.1 _ _ | omega) (fun h14 => ?_) (fun h14 => ?_)
  · skip
    refine x_loop (α := Int × GT × RT) (fun ⟨c9, G1, S⟩ => (S 34 0).toNat) (fun ⟨c9, G1, S⟩ => c9 = rCount S 0 (rSiteOf R ho0) q0 (S 34 0).toNat ∧ rkTr 0 (rSiteOf R ho0) q0 4 (S 34 0).toNat S = rkTr 0 (rSiteOf R ho0) q0 4 (R 34 0).toNat R ∧ rkFr [] [B 8] G G1 ∧ rkC G1 B S ∧ rkJ S ∧ Fs R S ∧ rFd R S ∧ S 1 0 = R 1 0) (fun ⟨c9, G1, S⟩ => G1) (fun ⟨c9, G1, S⟩ => [some (.ref (B 6)), some (.ref y), some (.int (i32 4)), some (.int (i32 c9)), some (.int (i32 k))]) (fun _ => []) (rCount R 0 (rSiteOf R ho0) q0 k.toNat, G, R) ⟨by (try dsimp only); rw [show k = R 34 0 by omega], rfl, fr_rfl, hC, hJ, Fs.refl, rFd.refl, rfl⟩ rfl rfl rfl ?_
    intro aa hI ih
    obtain ⟨c9, G1, S⟩ := aa
    (try dsimp only at hI); (try dsimp only at ih); (try dsimp only)
    obtain ⟨j1, j2, j3, j4, j5, j6, j7, j8⟩ := hI
    have hci9 := rCount_in S 0 (rSiteOf R ho0) q0 (S 34 0).toNat
    have hW1 := rkW_R (rkW_fr hW j3 (fun k z => by cases z) ⟨by simpa using hB.2.2.2.2.2.2.2.1, by simpa using hB.2.2.2.2.2.2.2.2.2.2.2.2.1, by simpa using hB.2.2.2.2.2.2.2.2.2.2.2.2.2.2.2.2.1⟩ (fun x z => by (have z2 := List.mem_singleton.mp z; rw [z2, bk8]; decide))) j6 j5.2.2.2
    have hB1 := hW1.1
    have nb6 := hB1.1.2.1
    have jn := j5.1.1
    refine x_iload_n 50 C dX6_trim_49 rfl rfl ?_
    refine x_iload_n 51 C dX6_trim_50 rfl rfl ?_
    refine x_icmp_le 54 69 C dX6_trim_51 rfl (by decide) (by first | exact hRw _ _ | assumption | exact ⟨by omega, by omega⟩ | exact hw.1 _ _ | omega) (by first | exact hRw _ _ | assumption | exact ⟨by omega, by omega⟩ | exact hw.1 _ _ | omega) (fun h51 => ?_) (fun h51 => ?_)
    · skip
      exact x_ret C dX6_trim_69 ⟨rfl, S, by rw [← j2, rkTr_stop (by omega)], j3, j4, j5, j6, j7, j8⟩
    · skip
      refine x_aload_n 55 C dX6_trim_54 rfl rfl ?_
      refine x_aload_n 56 C dX6_trim_55 rfl rfl ?_
      refine x_aload_n 57 C dX6_trim_56 rfl rfl ?_
      refine x_callV (As := [_]) 60 9 0 0 C vw_X6_182 iw_X6_placeToGo sw_X6_placeToGo (c_X6_placeToGoY hW1 j4 j5.1 j5.2.1 (rkCo_fr hy j3 (fun k z => by cases z) (j3.2.2.1 (B 1) (by omega) (by simpa using hB.2.2.2.2.2.2.2.1))) (by rw [j6 3 (by decide) (by decide)]; exact ho2) hq0) dX6_trim_57 rfl rfl rfl rfl rfl rfl nb6 ⟨Nat.le_of_ble_eq_true rfl, Nat.le_of_ble_eq_true rfl⟩ (Nat.le_of_ble_eq_true rfl) ⟨Nat.le_refl _, Nat.le_refl _⟩ (fun v G' hq => ?_)
      obtain ⟨p1, rfl, hG9, hpr, hpg⟩ := hq
      replace hG9 := hG9.symm
      subst hG9
      rw [j6.site] at hpg
      obtain ⟨jx, jx1, jx2⟩ := rCount_ex (R := S) (by omega : 0 < rCount S 0 (rSiteOf R ho0) q0 (S 34 0).toNat) j5.1
      have hmn : rkMn S 0 (rSiteOf R ho0) q0 p1 (S 34 0) := hpg.elim (fun z => (z.2 jx jx1 jx2).elim) id
      have hpi : 0 ≤ p1 ∧ p1 < S 34 0 := ⟨hmn.1.1, hmn.1.2.1⟩
      have hpa := hmn.1.2.2
      have hpe : rEv S 0 (rSiteOf R ho0) q0 = p1 := rkMn_one (rEv_mn j5.1 j5.2.1 ⟨jx, jx1, jx2⟩) hmn
      refine x_as rfl rfl rfl ?_
      refine x_callV (As := [_]) 63 9 0 0 C vw_X6_147 iw_X6_removeAt sw_X6_removeAt (c_X6_removeAt hW1 j4 j5.1 ⟨by omega, by omega⟩) dX6_trim_60 rfl rfl rfl rfl rfl rfl nb6 ⟨Nat.le_of_ble_eq_true rfl, Nat.le_of_ble_eq_true rfl⟩ (Nat.le_of_ble_eq_true rfl) ⟨Nat.le_refl _, Nat.le_refl _⟩ (fun v G' hq => ?_)
      obtain ⟨rfl, hG9⟩ := hq
      rw [if_neg (by omega)] at hG9
      subst hG9
      refine x_as rfl rfl rfl ?_
      refine x_iinc 66 C dX6_trim_63 rfl rfl rfl rfl ?_
      refine x_goto 49 C dX6_trim_66 (by decide) ?_
      exact ih (c9 + -1, _, rDrops S p1) ⟨by (try dsimp only); rw [rCount_drop hW1.2.2.2.2.1 j5.1 hpi hpa]; omega, by (try dsimp only); rw [← j2, rkTr_step (R := R) j5.1 (by omega) (by decide), hpe], fr_sL List.mem_cons_self j3, rkC_drop hB1 j4 hpi (fr_sL List.mem_cons_self fr_rfl) sL_s, rkJ_drop j5 hpi, j6.trans rDrops_Fs, j7.trans rDrops_Fd, (rDrops_out (R := S) (i := p1) (f := 1) (Or.inl (by decide)) 0).trans j8⟩ (by (try dsimp only); rw [rDrops_34]; omega)
  · skip
    obtain ⟨tk, gok, xk, agk, prk, alk⟩ := hh8 k i1 (by omega)
    obtain ⟨uk1, uk2, uk3, uk4⟩ := hRC.2 k.toNat (by omega)
    have xkk := xk.1
    refine x_aload_n 18 C dX6_trim_17 rfl rfl ?_
    refine x_ifnull (r := some _) 21 40 C dX6_trim_18 rfl (by decide) (fun z => by cases z) (fun _ _ => ?_)
    refine x_aload_n 22 C dX6_trim_21 rfl rfl ?_
    refine x_getO 25 900 C fr_X6_12 dX6_trim_22 rfl rfl rfl rfl (by assumption) (by assumption) ?_
    refine x_iload 27 C dX6_trim_25 rfl rfl ?_
    refine x_callL (As := [_]) (ci := 2) 30 0 0 C vw_X6_22 iw_Jx4a65c_get_915e3 sw_Jx4a65c_get_915e3 (c_get (x := rkAt G (B 8) k) (by assumption) (by omega) (rkAt_get hl8 (by omega) (by omega))) dX6_trim_27 rfl rfl rfl rfl rfl (Or.inr (Or.inr ⟨rfl, (by assumption)⟩)) ⟨Nat.le_of_ble_eq_true rfl, Nat.le_of_ble_eq_true rfl⟩ (Nat.le_of_ble_eq_true rfl) ⟨Nat.le_refl _, Nat.le_refl _⟩ (fun v G' hq => ?_)
    obtain ⟨rfl, hG9⟩ := hq
    replace hG9 := hG9.symm
    subst hG9
    refine x_as rfl rfl rfl ?_
    refine x_cast 33 C ck_X6_26 rfl rfl xkk dX6_trim_30 rfl ?_
    refine x_aload_n 34 C dX6_trim_33 rfl rfl ?_
    refine x_callV (As := [_]) 37 5 0 0 C vw_X6_179 iw_X2_sharesLimitWith sw_X2_sharesLimitWith (c_X2_sharesLimitWith hW xk hy uk1 ho2) dX6_trim_34 rfl rfl rfl rfl rfl rfl (by assumption) ⟨Nat.le_of_ble_eq_true rfl, Nat.le_of_ble_eq_true rfl⟩ (Nat.le_of_ble_eq_true rfl) ⟨Nat.le_refl _, Nat.le_refl _⟩ (fun v G' hq => ?_)
    obtain ⟨rfl, hG9⟩ := hq
    replace hG9 := hG9.symm
    subst hG9
    refine x_as rfl rfl rfl ?_
    refine x_if_eqB 40 43 C dX6_trim_37 rfl (by decide) (fun h37 => ?_) (fun h37 => ?_)
    · skip
      have hnk : rAmong R k 0 (rSiteOf R ho0) q0 = false := (rAm0 prk hq0).trans h37
      refine x_iinc 46 C dX6_trim_43 rfl rfl rfl rfl ?_
      refine x_goto 5 C dX6_trim_46 (by decide) ?_
      first | (have hb : rCount R 0 (rSiteOf R ho0) q0 (k + 1).toNat = rCount R 0 (rSiteOf R ho0) q0 k.toNat + 1 := (by rw [show (k + 1).toNat = k.toNat + 1 by omega, rCount, show ((k.toNat : Nat) : Int) = k by omega, htk]; rfl); exact x_as rfl (by rw [← hb]; rfl) rfl (ih (k + 1) ⟨by omega, by omega⟩ (by (try dsimp only); omega))) | (have hb : rCount R 0 (rSiteOf R ho0) q0 (k + 1).toNat = rCount R 0 (rSiteOf R ho0) q0 k.toNat := (by rw [show (k + 1).toNat = k.toNat + 1 by omega, rCount, show ((k.toNat : Nat) : Int) = k by omega, hnk]; exact Int.add_zero _); exact x_as rfl (by rw [← hb]; rfl) rfl (ih (k + 1) ⟨by omega, by omega⟩ (by (try dsimp only); omega)))
    · skip
      have htk : rAmong R k 0 (rSiteOf R ho0) q0 = true := (rAm0 prk hq0).trans h37
      refine x_iinc 43 C dX6_trim_40 rfl rfl rfl rfl ?_
      refine x_iinc 46 C dX6_trim_43 rfl rfl rfl rfl ?_
      refine x_goto 5 C dX6_trim_46 (by decide) ?_
      first | (have hb : rCount R 0 (rSiteOf R ho0) q0 (k + 1).toNat = rCount R 0 (rSiteOf R ho0) q0 k.toNat + 1 := (by rw [show (k + 1).toNat = k.toNat + 1 by omega, rCount, show ((k.toNat : Nat) : Int) = k by omega, htk]; rfl); exact x_as rfl (by rw [← hb]; rfl) rfl (ih (k + 1) ⟨by omega, by omega⟩ (by (try dsimp only); omega))) | (have hb : rCount R 0 (rSiteOf R ho0) q0 (k + 1).toNat = rCount R 0 (rSiteOf R ho0) q0 k.toNat := (by rw [show (k + 1).toNat = k.toNat + 1 by omega, rCount, show ((k.toNat : Nat) : Int) = k by omega, hnk]; exact Int.add_zero _); exact x_as rfl (by rw [← hb]; rfl) rfl (ih (k + 1) ⟨by omega, by omega⟩ (by (try dsimp only); omega)))
set_option maxHeartbeats 2000000 in
set_option maxRecDepth 100000 in
theorem c_X6_trimN {E : EV} {l : Launch} {G : GT} {B : Nat → Nat} {R : RT} (hW : rkW G B R) (hC : rkC G B R) (hJ : rkJ R) {si w : Int}  : MT E l yX6_trim cX6_trim 5 none 4 127 0 0 [.ref (B 6), va_rf none, .int (i32 10)] (G) (fun v G' => v = none ∧ ∃ S : RT, S = rkTr 1 si w 10 (R 34 0).toNat R ∧ rkFr [] [B 8] G G' ∧ rkC G' B S ∧ rkJ S ∧ Fs R S ∧ rFd R S ∧ S 1 0 = R 1 0) := by
  refine mt_of (own := RX6) (L := [some (.ref (B 6)), some (va_rf none), some (.int (i32 10)), none, none]) (by decide +kernel) rfl (Nat.le_trans (Nat.le_of_eq (sl_len (List.forall_mem_cons.mpr ⟨rfl, (List.forall_mem_cons.mpr ⟨cat_rf, (List.forall_mem_cons.mpr ⟨rfl, (fun _ h => absurd h List.not_mem_nil)⟩)⟩)⟩))) (Nat.le_of_ble_eq_true rfl)) (List.forall_mem_cons.mpr ⟨rfl, (List.forall_mem_cons.mpr ⟨cat_rf, (List.forall_mem_cons.mpr ⟨rfl, (fun _ h => absurd h List.not_mem_nil)⟩)⟩)⟩) rfl ?_
  intro p e s m args below meth c C hin
  refine x_wf (fun hw => ?_)
  have hRC := hJ.1
  obtain ⟨-, hUd, hUu, hRi⟩ := id hJ
  obtain ⟨hB, hH, hA, hP, hI⟩ := id hW
  obtain ⟨⟨b0, b6, b7⟩, ⟨bk1, bk2, bk3, bk4, bk5, bk8, bk9⟩, ⟨bp0, bp1, bp2, bp3, bp4, bp5, bp6, bp7, bp8⟩, -⟩ := id hB
  obtain ⟨hl1, hh1⟩ := id hH
  obtain ⟨hl2, hh2⟩ := id hA
  obtain ⟨hl3, hh3⟩ := id hP
  obtain ⟨iH, iA, iAd, iHl, iP, iS, hRw, iU⟩ := id hI
  have iH1 := iH.1
  have iA1 := iA.1
  have iA2 := iA.2
  have iP1 := iP.1
  obtain ⟨hl8, hh8, hij8, hor8, hlu8, hub8⟩ := id hC
  have iC1 := hRC.1
  refine x_iconst 1 C dX6_trim_0 rfl ?_
  refine x_istore_n 2 C dX6_trim_1 rfl rfl rfl ?_
  refine x_iconst 3 C dX6_trim_2 rfl ?_
  refine x_istore 5 C dX6_trim_3 rfl rfl rfl ?_
  refine x_loop (α := Int) (fun k => (12 - k).toNat) (fun k => 0 ≤ k ∧ k ≤ R 34 0) (fun k => G) (fun k => [some (.ref (B 6)), some (va_rf none), some (.int (i32 10)), some (.int (i32 (rCount R 1 si w k.toNat))), some (.int (i32 k))]) (fun _ => []) 0 ⟨by omega, by omega⟩ rfl rfl rfl ?_
  intro aa hI ih
  obtain ⟨k, rfl⟩ := (⟨aa, rfl⟩ : ∃ z, z = aa)
  (try dsimp only at hI); (try dsimp only at ih); (try dsimp only)
  obtain ⟨i1, i2⟩ := hI
  have hci := rCount_in R 1 si w k.toNat
  refine x_iload 7 C dX6_trim_5 rfl rfl ?_
  refine x_aload_n 8 C dX6_trim_7 rfl rfl ?_
  refine x_getO 11 900 C fr_X6_12 dX6_trim_8 rfl rfl rfl rfl (by assumption) (by assumption) ?_
  refine x_callL (As := []) (ci := 2) 14 0 0 C vw_X6_18 iw_Jx4a65c_size_8abf5 sw_Jx4a65c_size_8abf5 (c_sizev (by assumption) hl8) dX6_trim_11 rfl rfl rfl rfl rfl (Or.inr (Or.inr ⟨rfl, (by assumption)⟩)) ⟨Nat.le_of_ble_eq_true rfl, Nat.le_of_ble_eq_true rfl⟩ (Nat.le_of_ble_eq_true rfl) ⟨Nat.le_refl _, Nat.le_refl _⟩ (fun v G' hq => ?_)
  obtain ⟨rfl, hG9⟩ := hq
  replace hG9 := hG9.symm
  subst hG9
  refine x_as rfl rfl rfl ?_
  refine x_icmp_ge 17 49 C dX6_trim_14 rfl (by decide) (by first | exact hRw _ _ | assumption | exact ⟨by omega, by omega⟩ | exact hw.1 _ _ | omega) (by first | exact hRw _ _ | assumption | exact ⟨by omega, by omega⟩ | exact hw.1 _ _ | omega) (fun h14 => ?_) (fun h14 => ?_)
  · skip
    refine x_loop (α := Int × GT × RT) (fun ⟨c9, G1, S⟩ => (S 34 0).toNat) (fun ⟨c9, G1, S⟩ => c9 = rCount S 1 si w (S 34 0).toNat ∧ rkTr 1 si w 10 (S 34 0).toNat S = rkTr 1 si w 10 (R 34 0).toNat R ∧ rkFr [] [B 8] G G1 ∧ rkC G1 B S ∧ rkJ S ∧ Fs R S ∧ rFd R S ∧ S 1 0 = R 1 0) (fun ⟨c9, G1, S⟩ => G1) (fun ⟨c9, G1, S⟩ => [some (.ref (B 6)), some (va_rf none), some (.int (i32 10)), some (.int (i32 c9)), some (.int (i32 k))]) (fun _ => []) (rCount R 1 si w k.toNat, G, R) ⟨by (try dsimp only); rw [show k = R 34 0 by omega], rfl, fr_rfl, hC, hJ, Fs.refl, rFd.refl, rfl⟩ rfl rfl rfl ?_
    intro aa hI ih
    obtain ⟨c9, G1, S⟩ := aa
    (try dsimp only at hI); (try dsimp only at ih); (try dsimp only)
    obtain ⟨j1, j2, j3, j4, j5, j6, j7, j8⟩ := hI
    have hci9 := rCount_in S 1 si w (S 34 0).toNat
    have hW1 := rkW_R (rkW_fr hW j3 (fun k z => by cases z) ⟨by simpa using hB.2.2.2.2.2.2.2.1, by simpa using hB.2.2.2.2.2.2.2.2.2.2.2.2.1, by simpa using hB.2.2.2.2.2.2.2.2.2.2.2.2.2.2.2.2.1⟩ (fun x z => by (have z2 := List.mem_singleton.mp z; rw [z2, bk8]; decide))) j6 j5.2.2.2
    have hB1 := hW1.1
    have nb6 := hB1.1.2.1
    have jn := j5.1.1
    refine x_iload_n 50 C dX6_trim_49 rfl rfl ?_
    refine x_iload_n 51 C dX6_trim_50 rfl rfl ?_
    refine x_icmp_le 54 69 C dX6_trim_51 rfl (by decide) (by first | exact hRw _ _ | assumption | exact ⟨by omega, by omega⟩ | exact hw.1 _ _ | omega) (by first | exact hRw _ _ | assumption | exact ⟨by omega, by omega⟩ | exact hw.1 _ _ | omega) (fun h51 => ?_) (fun h51 => ?_)
    · skip
      exact x_ret C dX6_trim_69 ⟨rfl, S, by rw [← j2, rkTr_stop (by omega)], j3, j4, j5, j6, j7, j8⟩
    · skip
      refine x_aload_n 55 C dX6_trim_54 rfl rfl ?_
      refine x_aload_n 56 C dX6_trim_55 rfl rfl ?_
      refine x_aload_nq 57 C dX6_trim_56 rfl rfl ?_
      refine x_callV (As := [_]) 60 9 0 0 C vw_X6_182 iw_X6_placeToGo sw_X6_placeToGo (c_X6_placeToGoN hW1 j4 j5.1 j5.2.1 (si := si) (w := w)) dX6_trim_57 rfl rfl rfl rfl rfl rfl nb6 ⟨Nat.le_of_ble_eq_true rfl, Nat.le_of_ble_eq_true rfl⟩ (Nat.le_of_ble_eq_true rfl) ⟨Nat.le_refl _, Nat.le_refl _⟩ (fun v G' hq => ?_)
      obtain ⟨p1, rfl, hG9, hpr, hpg⟩ := hq
      replace hG9 := hG9.symm
      subst hG9
      obtain ⟨jx, jx1, jx2⟩ := rCount_ex (R := S) (by omega : 0 < rCount S 1 si w (S 34 0).toNat) j5.1
      have hmn : rkMn S 1 si w p1 (S 34 0) := hpg.elim (fun z => (z.2 jx jx1 jx2).elim) id
      have hpi : 0 ≤ p1 ∧ p1 < S 34 0 := ⟨hmn.1.1, hmn.1.2.1⟩
      have hpa := hmn.1.2.2
      have hpe : rEv S 1 si w = p1 := rkMn_one (rEv_mn j5.1 j5.2.1 ⟨jx, jx1, jx2⟩) hmn
      refine x_as rfl rfl rfl ?_
      refine x_callV (As := [_]) 63 9 0 0 C vw_X6_147 iw_X6_removeAt sw_X6_removeAt (c_X6_removeAt hW1 j4 j5.1 ⟨by omega, by omega⟩) dX6_trim_60 rfl rfl rfl rfl rfl rfl nb6 ⟨Nat.le_of_ble_eq_true rfl, Nat.le_of_ble_eq_true rfl⟩ (Nat.le_of_ble_eq_true rfl) ⟨Nat.le_refl _, Nat.le_refl _⟩ (fun v G' hq => ?_)
      obtain ⟨rfl, hG9⟩ := hq
      rw [if_neg (by omega)] at hG9
      subst hG9
      refine x_as rfl rfl rfl ?_
      refine x_iinc 66 C dX6_trim_63 rfl rfl rfl rfl ?_
      refine x_goto 49 C dX6_trim_66 (by decide) ?_
      exact ih (c9 + -1, _, rDrops S p1) ⟨by (try dsimp only); rw [rCount_drop hW1.2.2.2.2.1 j5.1 hpi hpa]; omega, by (try dsimp only); rw [← j2, rkTr_step (R := R) j5.1 (by omega) (by decide), hpe], fr_sL List.mem_cons_self j3, rkC_drop hB1 j4 hpi (fr_sL List.mem_cons_self fr_rfl) sL_s, rkJ_drop j5 hpi, j6.trans rDrops_Fs, j7.trans rDrops_Fd, (rDrops_out (R := S) (i := p1) (f := 1) (Or.inl (by decide)) 0).trans j8⟩ (by (try dsimp only); rw [rDrops_34]; omega)
  · skip
    obtain ⟨tk, gok, xk, agk, prk, alk⟩ := hh8 k i1 (by omega)
    obtain ⟨uk1, uk2, uk3, uk4⟩ := hRC.2 k.toNat (by omega)
    have xkk := xk.1
    have htk : rAmong R k 1 si w = true := rAm1
    refine x_aload_nq 18 C dX6_trim_17 rfl rfl ?_
    refine x_ifnull 21 40 C dX6_trim_18 rfl (by decide) (fun _ => ?_) (fun _ z => by cases z)
    refine x_iinc 43 C dX6_trim_40 rfl rfl rfl rfl ?_
    refine x_iinc 46 C dX6_trim_43 rfl rfl rfl rfl ?_
    refine x_goto 5 C dX6_trim_46 (by decide) ?_
    first | (have hb : rCount R 1 si w (k + 1).toNat = rCount R 1 si w k.toNat + 1 := (by rw [show (k + 1).toNat = k.toNat + 1 by omega, rCount, show ((k.toNat : Nat) : Int) = k by omega, htk]; rfl); exact x_as rfl (by rw [← hb]; rfl) rfl (ih (k + 1) ⟨by omega, by omega⟩ (by (try dsimp only); omega))) | (have hb : rCount R 1 si w (k + 1).toNat = rCount R 1 si w k.toNat := (by rw [show (k + 1).toNat = k.toNat + 1 by omega, rCount, show ((k.toNat : Nat) : Int) = k by omega, hnk]; exact Int.add_zero _); exact x_as rfl (by rw [← hb]; rfl) rfl (ih (k + 1) ⟨by omega, by omega⟩ (by (try dsimp only); omega)))
