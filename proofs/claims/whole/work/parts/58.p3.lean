/-! rows laid by program (wip/tools/genp.py) -/
theorem rkOrg_same {R : RT} (hD : RAd R) {a b : Int} (ha : 0 ≤ a ∧ a < R 7 0) (hb : 0 ≤ b ∧ b < R 7 0) : (rkOrg R a = rkOrg R b ↔ rSame R a b = true) := by
  have g1 := rGate_in hD ha.1 ha.2
  have g2 := rGate_in hD hb.1 hb.2
  obtain ⟨d1, d2, -⟩ := hD a.toNat (by omega)
  obtain ⟨e1, e2, -⟩ := hD b.toNat (by omega)
  unfold rSame rkOrg
  rw [decide_eq_true_eq]
  omega
theorem rkPl_same {R : RT} (hH : RH R) (hD : RAd R) {a b : Int} (ha : 0 ≤ a ∧ a < R 7 0) (hb : 0 ≤ b ∧ b < R 7 0) : (2 * rSiteOf R (R 9 a.toNat) + R 8 a.toNat = 2 * rSiteOf R (R 9 b.toNat) + R 8 b.toNat ↔ rPlace R a = rPlace R b) := by
  obtain ⟨d1, d2, -⟩ := hD a.toNat (by omega)
  obtain ⟨e1, e2, -⟩ := hD b.toNat (by omega)
  have s1 := rSiteOf_in hH d2.1 d2.2
  have s2 := rSiteOf_in hH e2.1 e2.2
  have := hH.1
  unfold rPlace
  omega
theorem rkOrg_in {R : RT} (hH : RH R) (hD : RAd R) {a : Int} (ha : 0 ≤ a ∧ a < R 7 0) : 1 ≤ rkOrg R a ∧ rkOrg R a ≤ 319999 := by
  have g1 := rGate_in hD ha.1 ha.2
  obtain ⟨d1, d2, -⟩ := hD a.toNat (by omega)
  have := hH.1
  unfold rkOrg
  omega
set_option maxHeartbeats 2000000 in
set_option maxRecDepth 100000 in
theorem c_X7_isForeign {E : EV} {l : Launch} {G : GT} {B : Nat → Nat} {R : RT} (hW : rkW G B R) {i : Int} (h0 : 0 ≤ i ∧ i < R 24 0) : MT E l yX7_isForeign cX7_isForeign 3 (some .boolean) 2 41 0 0 [.ref (rkAt G (B 3) i)] G (pD (some (.int (i32 (bI (rFor R i))))) (G)) := by
  refine mt_of (own := RX7) (L := [some (.ref (rkAt G (B 3) i)), none, none]) (by decide +kernel) rfl (Nat.le_of_ble_eq_true rfl) (List.forall_mem_cons.mpr ⟨rfl, (fun _ h => absurd h List.not_mem_nil)⟩) rfl ?_
  intro p e s m args below meth c C hin
  refine x_wf (fun hw => ?_)
  obtain ⟨hB, hH, hA, hP, hI⟩ := id hW
  obtain ⟨⟨b0, b6, b7⟩, ⟨bk1, bk2, bk3, bk4, bk5, bk8, bk9⟩, ⟨bp0, bp1, bp2, bp3, bp4, bp5, bp6, bp7, bp8⟩, -⟩ := id hB
  obtain ⟨hl1, hh1⟩ := id hH
  obtain ⟨hl2, hh2⟩ := id hA
  obtain ⟨hl3, hh3⟩ := id hP
  obtain ⟨iH, iA, iAd, iHl, iP, iS, hRw, iU⟩ := id hI
  have iH1 := iH.1
  have iA1 := iA.1
  have iA2 := iA.2
  have iP1 := iP.1
  obtain ⟨g1, g2, g3, g4⟩ := hh3 i h0.1 h0.2
  obtain ⟨u1, u2, u3⟩ := iP.2 i.toNat (by omega)
  obtain ⟨a1, a2, -⟩ := hh2 (R 25 i.toNat) u1.1 u1.2
  have ak := a1.1
  obtain ⟨c1, c2, -⟩ := iAd (R 25 i.toNat).toNat (by omega)
  have hs := rSiteOf_in iH c2.1 c2.2
  refine x_aload_n 1 C dX7_isForeign_0 rfl rfl ?_
  refine x_getO 4 1000 C fr_X7_9 dX7_isForeign_1 rfl rfl rfl rfl (by assumption) (by assumption) ?_
  refine x_callV (As := []) 7 3 0 0 C vw_X7_23 iw_X0_siteCode sw_X0_siteCode (c_X0_siteCode hW ⟨by omega, by omega⟩) dX7_isForeign_4 rfl rfl rfl rfl rfl rfl (by assumption) ⟨Nat.le_of_ble_eq_true rfl, Nat.le_of_ble_eq_true rfl⟩ (Nat.le_of_ble_eq_true rfl) ⟨Nat.le_refl _, Nat.le_refl _⟩ (fun v G' hq => ?_)
  obtain ⟨rfl, hG9⟩ := hq
  replace hG9 := hG9.symm
  subst hG9
  refine x_as rfl rfl rfl ?_
  refine x_istore_n 8 C dX7_isForeign_7 rfl rfl rfl ?_
  refine x_aload_n 9 C dX7_isForeign_8 rfl rfl ?_
  refine x_getPv 12 1001 C fr_X7_15 dX7_isForeign_9 rfl rfl rfl rfl (by assumption) (by first | assumption | rfl) ?_
  refine x_astore_nq 13 C dX7_isForeign_12 rfl rfl rfl ?_
  refine x_loop (α := Int) (fun k => (k + 1).toNat) (fun k => -1 ≤ k ∧ k < R 24 0 ∧ rForF R (rPlace R (R 25 i.toNat)) 9 k = rFor R i) (fun k => G) (fun k => [some (.ref (rkAt G (B 3) i)), some (.int (i32 (2 * rSiteOf R (R 9 (R 25 i.toNat).toNat) + R 8 (R 25 i.toNat).toNat))), some (va_rf (rkOp G (B 3) k))]) (fun _ => []) (R 26 i.toNat) ⟨by omega, by omega, rfl⟩ rfl rfl rfl ?_
  intro aa hI ih
  obtain ⟨k, rfl⟩ := (⟨aa, rfl⟩ : ∃ z, z = aa)
  (try dsimp only at hI); (try dsimp only at ih); (try dsimp only)
  obtain ⟨i1, i2, i3⟩ := hI
  refine x_aload_nq 14 C dX7_isForeign_13 rfl rfl ?_
  refine x_ifnull 17 38 C dX7_isForeign_14 rfl (by decide) (fun h14 => ?_) (fun a14 h14 => ?_)
  · skip
    have n14 := rkOp_none h14
    refine x_iconst 39 C dX7_isForeign_38 rfl ?_
    exact x_iret C dX7_isForeign_39 rfl ⟨vi (by rw [← i3, n14, rForF_top]; rfl), rfl⟩
  · skip
    have n14 := rkOp_some h14
    obtain ⟨f1, f2, f3, f4⟩ := hh3 k (by omega) i2
    obtain ⟨v1, v2, v3⟩ := iP.2 k.toNat (by omega)
    obtain ⟨m1, -⟩ := hh2 (R 25 k.toNat) v1.1 v1.2
    have mk := m1.1
    obtain ⟨e1, e2, -⟩ := iAd (R 25 k.toNat).toNat (by omega)
    have hs2 := rSiteOf_in iH e2.1 e2.2
    rw [rkOp_s (show 0 ≤ k by omega)]
    refine x_aload_n 18 C dX7_isForeign_17 rfl rfl ?_
    refine x_getO 21 1000 C fr_X7_9 dX7_isForeign_18 rfl rfl rfl rfl (by assumption) (by assumption) ?_
    refine x_callV (As := []) 24 3 0 0 C vw_X7_23 iw_X0_siteCode sw_X0_siteCode (c_X0_siteCode hW ⟨by omega, by omega⟩) dX7_isForeign_21 rfl rfl rfl rfl rfl rfl (by assumption) ⟨Nat.le_of_ble_eq_true rfl, Nat.le_of_ble_eq_true rfl⟩ (Nat.le_of_ble_eq_true rfl) ⟨Nat.le_refl _, Nat.le_refl _⟩ (fun v G' hq => ?_)
    obtain ⟨rfl, hG9⟩ := hq
    replace hG9 := hG9.symm
    subst hG9
    refine x_as rfl rfl rfl ?_
    refine x_iload_n 25 C dX7_isForeign_24 rfl rfl ?_
    refine x_icmp_eq 28 30 C dX7_isForeign_25 rfl (by decide) (by first | exact hRw _ _ | assumption | exact ⟨by omega, by omega⟩ | exact hw.1 _ _ | omega) (by first | exact hRw _ _ | assumption | exact ⟨by omega, by omega⟩ | exact hw.1 _ _ | omega) (fun h25 => ?_) (fun h25 => ?_)
    · skip
      refine x_aload_n 31 C dX7_isForeign_30 rfl rfl ?_
      refine x_getPv 34 1001 C fr_X7_15 dX7_isForeign_31 rfl rfl rfl rfl (by assumption) (by first | assumption | rfl) ?_
      refine x_astore_nq 35 C dX7_isForeign_34 rfl rfl rfl ?_
      refine x_goto 13 C dX7_isForeign_35 (by decide) ?_
      exact ih (R 26 k.toNat) ⟨by omega, by omega, by rw [← i3, rForF_step iP i1 i2 n14.1, decide_eq_false (show ¬ ¬ rPlace R (R 25 k.toNat) = rPlace R (R 25 i.toNat) from fun z => z ((rkPl_same iH iAd v1 u1).mp h25)), Bool.false_or]⟩ (by (try dsimp only); omega)
    · skip
      refine x_iconst 29 C dX7_isForeign_28 rfl ?_
      exact x_iret C dX7_isForeign_29 rfl ⟨vi (by rw [← i3, rForF_step iP i1 i2 n14.1, decide_eq_true (show ¬ rPlace R (R 25 k.toNat) = rPlace R (R 25 i.toNat) from fun z => h25 ((rkPl_same iH iAd v1 u1).mpr z)), Bool.true_or]; rfl), rfl⟩
set_option maxHeartbeats 2000000 in
set_option maxRecDepth 100000 in
theorem c_X7_referrerTo {E : EV} {l : Launch} {G : GT} {B : Nat → Nat} {R : RT} (hW : rkW G B R) {i : Int} (h0 : 0 ≤ R 61 0 ∧ R 61 0 < R 24 0) (h1 : 0 ≤ i ∧ i < R 7 0) : MT E l yX7_referrerTo cX7_referrerTo 3 (some .int) 1 21 0 0 [.ref (rkAt G (B 3) (R 61 0)), .ref (rkAt G (B 2) i)] G (pD (some (.int (i32 (rRef R i)))) (G)) := by
  refine mt_of (own := RX7) (L := [some (.ref (rkAt G (B 3) (R 61 0))), some (.ref (rkAt G (B 2) i)), none]) (by decide +kernel) rfl (Nat.le_of_ble_eq_true rfl) (List.forall_mem_cons.mpr ⟨rfl, (List.forall_mem_cons.mpr ⟨rfl, (fun _ h => absurd h List.not_mem_nil)⟩)⟩) rfl ?_
  intro p e s m args below meth c C hin
  refine x_wf (fun hw => ?_)
  obtain ⟨hB, hH, hA, hP, hI⟩ := id hW
  obtain ⟨⟨b0, b6, b7⟩, ⟨bk1, bk2, bk3, bk4, bk5, bk8, bk9⟩, ⟨bp0, bp1, bp2, bp3, bp4, bp5, bp6, bp7, bp8⟩, -⟩ := id hB
  obtain ⟨hl1, hh1⟩ := id hH
  obtain ⟨hl2, hh2⟩ := id hA
  obtain ⟨hl3, hh3⟩ := id hP
  obtain ⟨iH, iA, iAd, iHl, iP, iS, hRw, iU⟩ := id hI
  have iH1 := iH.1
  have iA1 := iA.1
  have iA2 := iA.2
  have iP1 := iP.1
  obtain ⟨g1, g2, g3, g4⟩ := hh3 (R 61 0) h0.1 h0.2
  obtain ⟨u1, u2, u3⟩ := iP.2 (R 61 0).toNat (by omega)
  obtain ⟨⟨a1, a2, a3, a4, a5, a6⟩, -⟩ := hh2 (R 25 (R 61 0).toNat) u1.1 u1.2
  obtain ⟨⟨e1, e2, e3, e4, e5, e6⟩, -⟩ := hh2 i h1.1 h1.2
  have o1 := rkOrg_in iH iAd u1
  have o2 := rkOrg_in iH iAd h1
  have os := rkOrg_same iAd h1 u1
  refine x_joinv 19 (fun vJ => vJ = bI (rSame R i (R 25 (R 61 0).toNat))) ?_ (fun hJ19 => ?_)
  · intro vJ hJ
    subst hJ
    refine x_istore_n 20 C dX7_referrerTo_19 rfl rfl rfl ?_
    refine x_aload_n 21 C dX7_referrerTo_20 rfl rfl ?_
    refine x_getIv 24 1002 C fr_X7_19 dX7_referrerTo_21 rfl rfl rfl rfl (by assumption) (by first | assumption | rfl) ?_
    rcases (show R 27 (R 61 0).toNat = 1 ∨ R 27 (R 61 0).toNat = 2 ∨ R 27 (R 61 0).toNat = 3 ∨ R 27 (R 61 0).toNat = 4 ∨ R 27 (R 61 0).toNat = 0 by omega) with k0 | k0 | k0 | k0 | k0
    · skip
      refine x_tableIn 56 1 C dX7_referrerTo_24 (by first | exact hRw _ _ | assumption | exact ⟨by omega, by omega⟩ | exact hw.1 _ _ | omega) k0 (by omega) rfl (by decide) ?_
      refine x_iconst 57 C dX7_referrerTo_56 rfl ?_
      exact x_iret C dX7_referrerTo_57 rfl ⟨vi ((show rRef R i = 1 from (if_neg (by omega)).trans (if_pos k0)).symm), rfl⟩
    · skip
      refine x_tableIn 58 2 C dX7_referrerTo_24 (by first | exact hRw _ _ | assumption | exact ⟨by omega, by omega⟩ | exact hw.1 _ _ | omega) k0 (by omega) rfl (by decide) ?_
      refine x_joinv 67 (fun vJ => vJ = if rSame R i (R 25 (R 61 0).toNat) = true then 2 else 0) ?_ (fun hJ67 => ?_)
      · intro vJ hJ
        subst hJ
        exact x_iret C dX7_referrerTo_67 rfl ⟨vi ((show rRef R i = if rSame R i (R 25 (R 61 0).toNat) = true then 2 else 0 from (if_neg (by omega)).trans ((if_neg (by omega)).trans (if_pos k0))).symm), rfl⟩
      · skip
        refine x_iload_n 59 C dX7_referrerTo_58 rfl rfl ?_
        refine x_if_eqB 62 66 C dX7_referrerTo_59 rfl (by decide) (fun h59 => ?_) (fun h59 => ?_)
        · skip
          refine x_iconst 67 C dX7_referrerTo_66 rfl ?_
          exact hJ67 _ (by first | rw [if_pos (by assumption)] | rw [if_neg (by rw [h59]; decide)])
        · skip
          refine x_iconst 63 C dX7_referrerTo_62 rfl ?_
          refine x_goto 67 C dX7_referrerTo_63 (by decide) ?_
          exact hJ67 _ (by first | rw [if_pos (by assumption)] | rw [if_neg (by rw [h59]; decide)])
    · skip
      refine x_tableIn 68 3 C dX7_referrerTo_24 (by first | exact hRw _ _ | assumption | exact ⟨by omega, by omega⟩ | exact hw.1 _ _ | omega) k0 (by omega) rfl (by decide) ?_
      refine x_iload_n 69 C dX7_referrerTo_68 rfl rfl ?_
      refine x_if_eqB 72 74 C dX7_referrerTo_69 rfl (by decide) (fun h69 => ?_) (fun h69 => ?_)
      · skip
        refine x_joinv 97 (fun vJ => vJ = if R 8 (R 25 (R 61 0).toNat).toNat = 1 ∧ R 8 i.toNat = 0 then 0 else 1) ?_ (fun hJ97 => ?_)
        · intro vJ hJ
          subst hJ
          exact x_iret C dX7_referrerTo_97 rfl ⟨vi ((show rRef R i = if R 8 (R 25 (R 61 0).toNat).toNat = 1 ∧ R 8 i.toNat = 0 then 0 else 1 from (if_neg (by omega)).trans ((if_neg (by omega)).trans ((if_neg (by omega)).trans ((if_pos k0).trans (if_neg (show ¬ rSame R i (rFrom R) = true from by rw [show rSame R i (rFrom R) = false from h69]; decide)))))).symm), rfl⟩
        · skip
          refine x_aload_n 75 C dX7_referrerTo_74 rfl rfl ?_
          refine x_getO 78 1000 C fr_X7_9 dX7_referrerTo_75 rfl rfl rfl rfl (by assumption) (by assumption) ?_
          refine x_getIv 81 301 C fr_X7_32 dX7_referrerTo_78 rfl rfl rfl rfl (by assumption) (by first | assumption | rfl) ?_
          refine x_iconst 82 C dX7_referrerTo_81 rfl ?_
          refine x_icmp_ne 85 96 C dX7_referrerTo_82 rfl (by decide) (by first | exact hRw _ _ | assumption | exact ⟨by omega, by omega⟩ | exact hw.1 _ _ | omega) (by first | exact hRw _ _ | assumption | exact ⟨by omega, by omega⟩ | exact hw.1 _ _ | omega) (fun h82 => ?_) (fun h82 => ?_)
          · skip
            refine x_iconst 97 C dX7_referrerTo_96 rfl ?_
            exact hJ97 _ (by first | rw [if_pos ⟨by assumption, by assumption⟩] | rw [if_neg (by omega)])
          · skip
            refine x_aload_n 86 C dX7_referrerTo_85 rfl rfl ?_
            refine x_getIv 89 301 C fr_X7_32 dX7_referrerTo_86 rfl rfl rfl rfl (by assumption) (by first | assumption | rfl) ?_
            refine x_if_ne 92 96 C dX7_referrerTo_89 rfl (by decide) (by first | exact hRw _ _ | assumption | exact ⟨by omega, by omega⟩ | exact hw.1 _ _ | omega) (fun h89 => ?_) (fun h89 => ?_)
            · skip
              refine x_iconst 97 C dX7_referrerTo_96 rfl ?_
              exact hJ97 _ (by first | rw [if_pos ⟨by assumption, by assumption⟩] | rw [if_neg (by omega)])
            · skip
              refine x_iconst 93 C dX7_referrerTo_92 rfl ?_
              refine x_goto 97 C dX7_referrerTo_93 (by decide) ?_
              exact hJ97 _ (by first | rw [if_pos ⟨by assumption, by assumption⟩] | rw [if_neg (by omega)])
      · skip
        refine x_iconst 73 C dX7_referrerTo_72 rfl ?_
        exact x_iret C dX7_referrerTo_73 rfl ⟨vi ((show rRef R i = 2 from (if_neg (by omega)).trans ((if_neg (by omega)).trans ((if_neg (by omega)).trans ((if_pos k0).trans (if_pos (show rSame R i (rFrom R) = true from h69)))))).symm), rfl⟩
    · skip
      refine x_tableIn 98 4 C dX7_referrerTo_24 (by first | exact hRw _ _ | assumption | exact ⟨by omega, by omega⟩ | exact hw.1 _ _ | omega) k0 (by omega) rfl (by decide) ?_
      refine x_iconst 99 C dX7_referrerTo_98 rfl ?_
      exact x_iret C dX7_referrerTo_99 rfl ⟨vi ((show rRef R i = 2 from (if_neg (by omega)).trans ((if_neg (by omega)).trans ((if_neg (by omega)).trans (if_neg (by omega))))).symm), rfl⟩
    · skip
      refine x_tableOut 100 C dX7_referrerTo_24 (by first | exact hRw _ _ | assumption | exact ⟨by omega, by omega⟩ | exact hw.1 _ _ | omega) (by omega) (by decide) ?_
      refine x_iconst 101 C dX7_referrerTo_100 rfl ?_
      exact x_iret C dX7_referrerTo_101 rfl ⟨vi ((show rRef R i = 0 from if_pos k0).symm), rfl⟩
  · skip
    refine x_aload_n 1 C dX7_referrerTo_0 rfl rfl ?_
    refine x_getO 4 1000 C fr_X7_9 dX7_referrerTo_1 rfl rfl rfl rfl (by assumption) (by assumption) ?_
    refine x_callV (As := []) 7 3 0 0 C vw_X7_29 iw_X0_origin sw_X0_origin (c_X0_origin hW ⟨by omega, by omega⟩) dX7_referrerTo_4 rfl rfl rfl rfl rfl rfl (by assumption) ⟨Nat.le_of_ble_eq_true rfl, Nat.le_of_ble_eq_true rfl⟩ (Nat.le_of_ble_eq_true rfl) ⟨Nat.le_refl _, Nat.le_refl _⟩ (fun v G' hq => ?_)
    obtain ⟨rfl, hG9⟩ := hq
    replace hG9 := hG9.symm
    subst hG9
    refine x_as rfl rfl rfl ?_
    refine x_aload_n 8 C dX7_referrerTo_7 rfl rfl ?_
    refine x_callV (As := []) 11 3 0 0 C vw_X7_29 iw_X0_origin sw_X0_origin (c_X0_origin hW ⟨by omega, by omega⟩) dX7_referrerTo_8 rfl rfl rfl rfl rfl rfl (by assumption) ⟨Nat.le_of_ble_eq_true rfl, Nat.le_of_ble_eq_true rfl⟩ (Nat.le_of_ble_eq_true rfl) ⟨Nat.le_refl _, Nat.le_refl _⟩ (fun v G' hq => ?_)
    obtain ⟨rfl, hG9⟩ := hq
    replace hG9 := hG9.symm
    subst hG9
    refine x_as rfl rfl rfl ?_
    refine x_icmp_ne 14 18 C dX7_referrerTo_11 rfl (by decide) (by first | exact hRw _ _ | assumption | exact ⟨by omega, by omega⟩ | exact hw.1 _ _ | omega) (by first | exact hRw _ _ | assumption | exact ⟨by omega, by omega⟩ | exact hw.1 _ _ | omega) (fun h11 => ?_) (fun h11 => ?_)
    · skip
      refine x_iconst 19 C dX7_referrerTo_18 rfl ?_
      exact hJ19 _ (by first | (rw [os.mp (by omega)]; rfl) | (rw [show rSame R i (R 25 (R 61 0).toNat) = false from by (cases q : rSame R i (R 25 (R 61 0).toNat); rfl; exact absurd (os.mpr q) (by omega))]; rfl))
    · skip
      refine x_iconst 15 C dX7_referrerTo_14 rfl ?_
      refine x_goto 19 C dX7_referrerTo_15 (by decide) ?_
      exact hJ19 _ (by first | (rw [os.mp (by omega)]; rfl) | (rw [show rSame R i (R 25 (R 61 0).toNat) = false from by (cases q : rSame R i (R 25 (R 61 0).toNat); rfl; exact absurd (os.mpr q) (by omega))]; rfl))
set_option maxHeartbeats 2000000 in
set_option maxRecDepth 100000 in
theorem c_X11_isAddress {E : EV} {l : Launch} {G : GT} {B : Nat → Nat} {R : RT} (hW : rkW G B R) {i : Int} (hx : InR i) : MT E l yX11_isAddress cX11_isAddress 2 (some .boolean) 1 20 0 0 [.ref (B 0), .int (i32 i)] G (pD (some (.int (i32 (bI (rIsAddress R i))))) (G)) := by
  refine mt_of (own := RX11) (L := [some (.ref (B 0)), some (.int (i32 i))]) (by decide +kernel) rfl (Nat.le_of_ble_eq_true rfl) (List.forall_mem_cons.mpr ⟨rfl, (List.forall_mem_cons.mpr ⟨rfl, (fun _ h => absurd h List.not_mem_nil)⟩)⟩) rfl ?_
  intro p e s m args below meth c C hin
  refine x_wf (fun hw => ?_)
  obtain ⟨hB, hH, hA, hP, hI⟩ := id hW
  obtain ⟨⟨b0, b6, b7⟩, ⟨bk1, bk2, bk3, bk4, bk5, bk8, bk9⟩, ⟨bp0, bp1, bp2, bp3, bp4, bp5, bp6, bp7, bp8⟩, -⟩ := id hB
  obtain ⟨hl1, hh1⟩ := id hH
  obtain ⟨hl2, hh2⟩ := id hA
  obtain ⟨hl3, hh3⟩ := id hP
  obtain ⟨iH, iA, iAd, iHl, iP, iS, hRw, iU⟩ := id hI
  have iH1 := iH.1
  have iA1 := iA.1
  have iA2 := iA.2
  have iP1 := iP.1
  refine x_joinv 20 (fun vJ => vJ = bI (rIsAddress R i)) ?_ (fun hJ20 => ?_)
  · intro vJ hJ
    subst hJ
    exact x_iret C dX11_isAddress_20 (by first | rfl | exact nar_b _ | exact nar_01 (by first | assumption | omega)) ⟨vi (rfl), rfl⟩
  · skip
    refine x_iload_n 1 C dX11_isAddress_0 rfl rfl ?_
    refine x_if_lt 4 19 C dX11_isAddress_1 rfl (by decide) (by first | exact hRw _ _ | assumption | exact ⟨by omega, by omega⟩ | exact hw.1 _ _ | omega) (fun h1 => ?_) (fun h1 => ?_)
    · skip
      refine x_iconst 20 C dX11_isAddress_19 rfl ?_
      exact hJ20 _ (by unfold rIsAddress rLies; first | (rw [decide_eq_true (by omega)]; rfl) | (rw [decide_eq_false (by omega)]; rfl))
    · skip
      refine x_iload_n 5 C dX11_isAddress_4 rfl rfl ?_
      refine x_aload_n 6 C dX11_isAddress_5 rfl rfl ?_
      refine x_getO 9 1401 C fr_X11_16 dX11_isAddress_6 rfl rfl rfl rfl (by assumption) (by assumption) ?_
      refine x_callL (As := []) (ci := 2) 12 0 0 C vw_X11_66 iw_Jx4a65c_size_8abf5 sw_Jx4a65c_size_8abf5 (c_sizev (by assumption) hl2) dX11_isAddress_9 rfl rfl rfl rfl rfl (Or.inr (Or.inr ⟨rfl, (by assumption)⟩)) ⟨Nat.le_of_ble_eq_true rfl, Nat.le_of_ble_eq_true rfl⟩ (Nat.le_of_ble_eq_true rfl) ⟨Nat.le_refl _, Nat.le_refl _⟩ (fun v G' hq => ?_)
      obtain ⟨rfl, hG9⟩ := hq
      replace hG9 := hG9.symm
      subst hG9
      refine x_as rfl rfl rfl ?_
      refine x_icmp_ge 15 19 C dX11_isAddress_12 rfl (by decide) (by first | exact hRw _ _ | assumption | exact ⟨by omega, by omega⟩ | exact hw.1 _ _ | omega) (by first | exact hRw _ _ | assumption | exact ⟨by omega, by omega⟩ | exact hw.1 _ _ | omega) (fun h12 => ?_) (fun h12 => ?_)
      · skip
        refine x_iconst 20 C dX11_isAddress_19 rfl ?_
        exact hJ20 _ (by unfold rIsAddress rLies; first | (rw [decide_eq_true (by omega)]; rfl) | (rw [decide_eq_false (by omega)]; rfl))
      · skip
        refine x_iconst 16 C dX11_isAddress_15 rfl ?_
        refine x_goto 20 C dX11_isAddress_16 (by decide) ?_
        exact hJ20 _ (by unfold rIsAddress rLies; first | (rw [decide_eq_true (by omega)]; rfl) | (rw [decide_eq_false (by omega)]; rfl))
set_option maxHeartbeats 2000000 in
set_option maxRecDepth 100000 in
theorem c_X11_addressAt {E : EV} {l : Launch} {G : GT} {B : Nat → Nat} {R : RT} (hW : rkW G B R) {i : Int} (hx : InR i) (hl : l.stackTraces = false) : MX E l yX11_addressAt cX11_addressAt 2 (some (.object "HopRules$Address")) 6 84 1 6 [.ref (B 0), .int (i32 i)] G (fun v G' => v = some (.ref (rkAt G (B 2) i)) ∧ G' = G ∧ (0 ≤ i ∧ i < R 7 0)) (fun nx G' => nx = "java/lang/IndexOutOfBoundsException" ∧ G' = G ∧ ¬ (0 ≤ i ∧ i < R 7 0)) := by
  refine mx_of (own := RX11) (L := [some (.ref (B 0)), some (.int (i32 i))]) (by decide +kernel) rfl (Nat.le_of_ble_eq_true rfl) (List.forall_mem_cons.mpr ⟨rfl, (List.forall_mem_cons.mpr ⟨rfl, (fun _ h => absurd h List.not_mem_nil)⟩)⟩) rfl ?_
  intro p e s m args below meth c C hin htab
  refine x_wf (fun hw => ?_)
  obtain ⟨hB, hH, hA, hP, hI⟩ := id hW
  obtain ⟨⟨b0, b6, b7⟩, ⟨bk1, bk2, bk3, bk4, bk5, bk8, bk9⟩, ⟨bp0, bp1, bp2, bp3, bp4, bp5, bp6, bp7, bp8⟩, -⟩ := id hB
  obtain ⟨hl1, hh1⟩ := id hH
  obtain ⟨hl2, hh2⟩ := id hA
  obtain ⟨hl3, hh3⟩ := id hP
  obtain ⟨iH, iA, iAd, iHl, iP, iS, hRw, iU⟩ := id hI
  have iH1 := iH.1
  have iA1 := iA.1
  have iA2 := iA.2
  have iP1 := iP.1
  refine x_aload_n 1 C dX11_addressAt_0 rfl rfl ?_
  refine x_iload_n 2 C dX11_addressAt_1 rfl rfl ?_
  refine x_callV (As := [_]) 5 14 1 6 C vw_X11_161 iw_X11_isAddress sw_X11_isAddress (c_X11_isAddress hW (by assumption)) dX11_addressAt_2 rfl rfl rfl rfl rfl rfl (by assumption) ⟨Nat.le_of_ble_eq_true rfl, Nat.le_of_ble_eq_true rfl⟩ (Nat.le_of_ble_eq_true rfl) ⟨Nat.le_refl _, Nat.le_refl _⟩ (fun v G' hq => ?_)
  obtain ⟨rfl, hG9⟩ := hq
  replace hG9 := hG9.symm
  subst hG9
  refine x_as rfl rfl rfl ?_
  refine x_if_neB 8 18 C dX11_addressAt_5 rfl (by decide) (fun h5 => ?_) (fun h5 => ?_)
  · skip
    have h5 := of_decide_eq_true h5
    refine x_aload_n 19 C dX11_addressAt_18 rfl rfl ?_
    refine x_getO 22 1401 C fr_X11_16 dX11_addressAt_19 rfl rfl rfl rfl (by assumption) (by assumption) ?_
    refine x_iload_n 23 C dX11_addressAt_22 rfl rfl ?_
    refine x_callL (As := [_]) (ci := 2) 26 1 6 C vw_X11_151 iw_Jx4a65c_get_915e3 sw_Jx4a65c_get_915e3 (c_get (x := rkAt G (B 2) i) (by assumption) (by omega) (rkAt_get hl2 (by omega) (by omega))) dX11_addressAt_23 rfl rfl rfl rfl rfl (Or.inr (Or.inr ⟨rfl, (by assumption)⟩)) ⟨Nat.le_of_ble_eq_true rfl, Nat.le_of_ble_eq_true rfl⟩ (Nat.le_of_ble_eq_true rfl) ⟨Nat.le_refl _, Nat.le_refl _⟩ (fun v G' hq => ?_)
    obtain ⟨rfl, hG9⟩ := hq
    replace hG9 := hG9.symm
    subst hG9
    refine x_as rfl rfl rfl ?_
    refine x_cast 29 C ck_X11_111 rfl rfl ((hh2 i (by omega) (by omega)).1.1) dX11_addressAt_26 rfl ?_
    exact x_through (x_aret (r := some _) C dX11_addressAt_29 rfl ⟨rfl, rfl, by omega, by omega⟩)
  · skip
    have h5 := of_decide_eq_false h5
    exact x_throw (text := "no such address") C hl htab tqI (by decide +kernel) dX11_addressAt_8 dX11_addressAt_11 dX11_addressAt_12 dX11_addressAt_14 dX11_addressAt_17 ⟨Nat.le_of_ble_eq_true rfl, Nat.le_of_ble_eq_true rfl⟩ ⟨by omega, by omega⟩ ⟨rfl, rfl, by omega⟩
set_option maxHeartbeats 2000000 in
set_option maxRecDepth 100000 in
theorem c_X11_pageAt {E : EV} {l : Launch} {G : GT} {B : Nat → Nat} {R : RT} (hW : rkW G B R) {i : Int} (hx : InR i) (hl : l.stackTraces = false) : MX E l yX11_pageAt cX11_pageAt 2 (some (.object "HopRules$Page")) 6 84 1 6 [.ref (B 0), .int (i32 i)] G (fun v G' => v = some (.ref (rkAt G (B 3) i)) ∧ G' = G ∧ (0 ≤ i ∧ i < R 24 0)) (fun nx G' => nx = "java/lang/IndexOutOfBoundsException" ∧ G' = G ∧ ¬ (0 ≤ i ∧ i < R 24 0)) := by
  refine mx_of (own := RX11) (L := [some (.ref (B 0)), some (.int (i32 i))]) (by decide +kernel) rfl (Nat.le_of_ble_eq_true rfl) (List.forall_mem_cons.mpr ⟨rfl, (List.forall_mem_cons.mpr ⟨rfl, (fun _ h => absurd h List.not_mem_nil)⟩)⟩) rfl ?_
  intro p e s m args below meth c C hin htab
  refine x_wf (fun hw => ?_)
  obtain ⟨hB, hH, hA, hP, hI⟩ := id hW
  obtain ⟨⟨b0, b6, b7⟩, ⟨bk1, bk2, bk3, bk4, bk5, bk8, bk9⟩, ⟨bp0, bp1, bp2, bp3, bp4, bp5, bp6, bp7, bp8⟩, -⟩ := id hB
  obtain ⟨hl1, hh1⟩ := id hH
  obtain ⟨hl2, hh2⟩ := id hA
  obtain ⟨hl3, hh3⟩ := id hP
  obtain ⟨iH, iA, iAd, iHl, iP, iS, hRw, iU⟩ := id hI
  have iH1 := iH.1
  have iA1 := iA.1
  have iA2 := iA.2
  have iP1 := iP.1
  refine x_iload_n 1 C dX11_pageAt_0 rfl rfl ?_
  refine x_if_lt 4 15 C dX11_pageAt_1 rfl (by decide) (by first | exact hRw _ _ | assumption | exact ⟨by omega, by omega⟩ | exact hw.1 _ _ | omega) (fun h1 => ?_) (fun h1 => ?_)
  · skip
    exact x_throwW (text := "no such page") C hl htab tqI (by decide +kernel) dX11_pageAt_15 dX11_pageAt_18 dX11_pageAt_19 dX11_pageAt_22 dX11_pageAt_25 ⟨Nat.le_of_ble_eq_true rfl, Nat.le_of_ble_eq_true rfl⟩ ⟨by omega, by omega⟩ ⟨rfl, rfl, by omega⟩
  · skip
    refine x_iload_n 5 C dX11_pageAt_4 rfl rfl ?_
    refine x_aload_n 6 C dX11_pageAt_5 rfl rfl ?_
    refine x_getO 9 1402 C fr_X11_19 dX11_pageAt_6 rfl rfl rfl rfl (by assumption) (by assumption) ?_
    refine x_callL (As := []) (ci := 2) 12 1 6 C vw_X11_66 iw_Jx4a65c_size_8abf5 sw_Jx4a65c_size_8abf5 (c_sizev (by assumption) hl3) dX11_pageAt_9 rfl rfl rfl rfl rfl (Or.inr (Or.inr ⟨rfl, (by assumption)⟩)) ⟨Nat.le_of_ble_eq_true rfl, Nat.le_of_ble_eq_true rfl⟩ (Nat.le_of_ble_eq_true rfl) ⟨Nat.le_refl _, Nat.le_refl _⟩ (fun v G' hq => ?_)
    obtain ⟨rfl, hG9⟩ := hq
    replace hG9 := hG9.symm
    subst hG9
    refine x_as rfl rfl rfl ?_
    refine x_icmp_lt 15 26 C dX11_pageAt_12 rfl (by decide) (by first | exact hRw _ _ | assumption | exact ⟨by omega, by omega⟩ | exact hw.1 _ _ | omega) (by first | exact hRw _ _ | assumption | exact ⟨by omega, by omega⟩ | exact hw.1 _ _ | omega) (fun h12 => ?_) (fun h12 => ?_)
    · skip
      refine x_aload_n 27 C dX11_pageAt_26 rfl rfl ?_
      refine x_getO 30 1402 C fr_X11_19 dX11_pageAt_27 rfl rfl rfl rfl (by assumption) (by assumption) ?_
      refine x_iload_n 31 C dX11_pageAt_30 rfl rfl ?_
      refine x_callL (As := [_]) (ci := 2) 34 1 6 C vw_X11_151 iw_Jx4a65c_get_915e3 sw_Jx4a65c_get_915e3 (c_get (x := rkAt G (B 3) i) (by assumption) (by omega) (rkAt_get hl3 (by omega) (by omega))) dX11_pageAt_31 rfl rfl rfl rfl rfl (Or.inr (Or.inr ⟨rfl, (by assumption)⟩)) ⟨Nat.le_of_ble_eq_true rfl, Nat.le_of_ble_eq_true rfl⟩ (Nat.le_of_ble_eq_true rfl) ⟨Nat.le_refl _, Nat.le_refl _⟩ (fun v G' hq => ?_)
      obtain ⟨rfl, hG9⟩ := hq
      replace hG9 := hG9.symm
      subst hG9
      refine x_as rfl rfl rfl ?_
      refine x_cast 37 C ck_X11_226 rfl rfl ((hh3 i (by omega) (by omega)).1) dX11_pageAt_34 rfl ?_
      exact x_through (x_aret (r := some _) C dX11_pageAt_37 rfl ⟨rfl, rfl, by omega, by omega⟩)
    · skip
      exact x_throwW (text := "no such page") C hl htab tqI (by decide +kernel) dX11_pageAt_15 dX11_pageAt_18 dX11_pageAt_19 dX11_pageAt_22 dX11_pageAt_25 ⟨Nat.le_of_ble_eq_true rfl, Nat.le_of_ble_eq_true rfl⟩ ⟨by omega, by omega⟩ ⟨rfl, rfl, by omega⟩
set_option maxHeartbeats 2000000 in
set_option maxRecDepth 100000 in
theorem c_X11_findHost {E : EV} {l : Launch} {G : GT} {B : Nat → Nat} {R : RT} (hW : rkW G B R) {a w : Int} (ha : -1 ≤ a ∧ a < R 3 0) (hx : InR w) : MT E l yX11_findHost cX11_findHost 5 (some (.object "HopRules$Host")) 3 64 0 0 [.ref (B 0), va_rf (rkOp G (B 1) a), .int (i32 w)] G (pD (some (va_rf (rkOp G (B 1) (rHostOf R a w (R 3 0).toNat)))) (G)) := by
  refine mt_of (own := RX11) (L := [some (.ref (B 0)), some (va_rf (rkOp G (B 1) a)), some (.int (i32 w)), none, none]) (by decide +kernel) rfl (Nat.le_trans (Nat.le_of_eq (sl_len (List.forall_mem_cons.mpr ⟨rfl, (List.forall_mem_cons.mpr ⟨cat_rf, (List.forall_mem_cons.mpr ⟨rfl, (fun _ h => absurd h List.not_mem_nil)⟩)⟩)⟩))) (Nat.le_of_ble_eq_true rfl)) (List.forall_mem_cons.mpr ⟨rfl, (List.forall_mem_cons.mpr ⟨cat_rf, (List.forall_mem_cons.mpr ⟨rfl, (fun _ h => absurd h List.not_mem_nil)⟩)⟩)⟩) rfl ?_
  intro p e s m args below meth c C hin
  refine x_wf (fun hw => ?_)
  obtain ⟨hB, hH, hA, hP, hI⟩ := id hW
  obtain ⟨⟨b0, b6, b7⟩, ⟨bk1, bk2, bk3, bk4, bk5, bk8, bk9⟩, ⟨bp0, bp1, bp2, bp3, bp4, bp5, bp6, bp7, bp8⟩, -⟩ := id hB
  obtain ⟨hl1, hh1⟩ := id hH
  obtain ⟨hl2, hh2⟩ := id hA
  obtain ⟨hl3, hh3⟩ := id hP
  obtain ⟨iH, iA, iAd, iHl, iP, iS, hRw, iU⟩ := id hI
  have iH1 := iH.1
  have iA1 := iA.1
  have iA2 := iA.2
  have iP1 := iP.1
  refine x_iconst 1 C dX11_findHost_0 rfl ?_
  refine x_istore_n 2 C dX11_findHost_1 rfl rfl rfl ?_
  refine x_loop (α := Int) (fun k => (17 - k).toNat) (fun k => 0 ≤ k ∧ k ≤ R 3 0 ∧ ∀ j : Nat, (j : Int) < k → ¬ (R 4 j = a ∧ R 5 j = w)) (fun k => G) (fun k => [some (.ref (B 0)), some (va_rf (rkOp G (B 1) a)), some (.int (i32 w)), some (.int (i32 k)), none]) (fun _ => []) 0 ⟨by omega, by omega, fun j hj => by omega⟩ rfl rfl rfl ?_
  intro aa hI ih
  obtain ⟨k, rfl⟩ := (⟨aa, rfl⟩ : ∃ z, z = aa)
  (try dsimp only at hI); (try dsimp only at ih); (try dsimp only)
  obtain ⟨i1, i2, i3⟩ := hI
  refine x_iload_n 3 C dX11_findHost_2 rfl rfl ?_
  refine x_aload_n 4 C dX11_findHost_3 rfl rfl ?_
  refine x_getO 7 1400 C fr_X11_10 dX11_findHost_4 rfl rfl rfl rfl (by assumption) (by assumption) ?_
  refine x_callL (As := []) (ci := 2) 10 0 0 C vw_X11_66 iw_Jx4a65c_size_8abf5 sw_Jx4a65c_size_8abf5 (c_sizev (by assumption) hl1) dX11_findHost_7 rfl rfl rfl rfl rfl (Or.inr (Or.inr ⟨rfl, (by assumption)⟩)) ⟨Nat.le_of_ble_eq_true rfl, Nat.le_of_ble_eq_true rfl⟩ (Nat.le_of_ble_eq_true rfl) ⟨Nat.le_refl _, Nat.le_refl _⟩ (fun v G' hq => ?_)
  obtain ⟨rfl, hG9⟩ := hq
  replace hG9 := hG9.symm
  subst hG9
  refine x_as rfl rfl rfl ?_
  refine x_icmp_ge 13 53 C dX11_findHost_10 rfl (by decide) (by first | exact hRw _ _ | assumption | exact ⟨by omega, by omega⟩ | exact hw.1 _ _ | omega) (by first | exact hRw _ _ | assumption | exact ⟨by omega, by omega⟩ | exact hw.1 _ _ | omega) (fun h10 => ?_) (fun h10 => ?_)
  · skip
    refine x_null 54 C dX11_findHost_53 rfl ?_
    exact x_aret C dX11_findHost_54 rfl ⟨by rw [rHostOf_no (R 3 0).toNat (fun j hj => i3 j (by omega)), rkOp_n], rfl⟩
  · skip
    obtain ⟨f1, f2, f3, f4, f5, f6⟩ := hh1 k i1 (by omega)
    have hu := iH.2 k.toNat (by omega)
    refine x_aload_n 14 C dX11_findHost_13 rfl rfl ?_
    refine x_getO 17 1400 C fr_X11_10 dX11_findHost_14 rfl rfl rfl rfl (by assumption) (by assumption) ?_
    refine x_iload_n 18 C dX11_findHost_17 rfl rfl ?_
    refine x_callL (As := [_]) (ci := 2) 21 0 0 C vw_X11_151 iw_Jx4a65c_get_915e3 sw_Jx4a65c_get_915e3 (c_get (x := rkAt G (B 1) k) (by assumption) (by omega) (rkAt_get hl1 (by omega) (by omega))) dX11_findHost_18 rfl rfl rfl rfl rfl (Or.inr (Or.inr ⟨rfl, (by assumption)⟩)) ⟨Nat.le_of_ble_eq_true rfl, Nat.le_of_ble_eq_true rfl⟩ (Nat.le_of_ble_eq_true rfl) ⟨Nat.le_refl _, Nat.le_refl _⟩ (fun v G' hq => ?_)
    obtain ⟨rfl, hG9⟩ := hq
    replace hG9 := hG9.symm
    subst hG9
    refine x_as rfl rfl rfl ?_
    refine x_cast 24 C ck_X11_58 rfl rfl ((hh1 k i1 (by omega)).1) dX11_findHost_21 rfl ?_
    refine x_astore 26 C dX11_findHost_24 rfl rfl rfl ?_
    refine x_aload 28 C dX11_findHost_26 rfl rfl ?_
    refine x_getPv 31 801 C fr_X11_155 dX11_findHost_28 rfl rfl rfl rfl (by assumption) (by first | assumption | rfl) ?_
    refine x_aload_nq 32 C dX11_findHost_31 rfl rfl ?_
    refine x_acmp_ne 35 47 C dX11_findHost_32 rfl (by decide) (fun h32 => ?_) (fun h32 => ?_)
    · skip
      have hno : ¬ (R 4 k.toNat = a ∧ R 5 k.toNat = w) := fun z => h32 (by rw [z.1])
      refine x_iinc 50 C dX11_findHost_47 rfl rfl rfl rfl ?_
      refine x_goto 2 C dX11_findHost_50 (by decide) ?_
      refine x_as rfl rfl rfl (x_less ?_ (ih (k + 1) ⟨by omega, by omega, fun j hj z => by (exact (if c : (j : Int) = k then hno (by rw [← c, Int.toNat_natCast]; exact z) else i3 j (by omega) z))⟩ (by (try dsimp only); omega))); exact ⟨rfl, rfl, rfl, rfl, trivial⟩
    · skip
      have h32 := rkOp_inj (f := 800) (fun i a b => (hh1 i a b).2.1) ⟨by omega, by omega⟩ ha h32
      refine x_aload 37 C dX11_findHost_35 rfl rfl ?_
      refine x_getIv 40 802 C fr_X11_158 dX11_findHost_37 rfl rfl rfl rfl (by assumption) (by first | assumption | rfl) ?_
      refine x_iload_n 41 C dX11_findHost_40 rfl rfl ?_
      refine x_icmp_ne 44 47 C dX11_findHost_41 rfl (by decide) (by first | exact hRw _ _ | assumption | exact ⟨by omega, by omega⟩ | exact hw.1 _ _ | omega) (by first | exact hRw _ _ | assumption | exact ⟨by omega, by omega⟩ | exact hw.1 _ _ | omega) (fun h41 => ?_) (fun h41 => ?_)
      · skip
        have hno : ¬ (R 4 k.toNat = a ∧ R 5 k.toNat = w) := fun z => h41 z.2
        refine x_iinc 50 C dX11_findHost_47 rfl rfl rfl rfl ?_
        refine x_goto 2 C dX11_findHost_50 (by decide) ?_
        refine x_as rfl rfl rfl (x_less ?_ (ih (k + 1) ⟨by omega, by omega, fun j hj z => by (exact (if c : (j : Int) = k then hno (by rw [← c, Int.toNat_natCast]; exact z) else i3 j (by omega) z))⟩ (by (try dsimp only); omega))); exact ⟨rfl, rfl, rfl, rfl, trivial⟩
      · skip
        refine x_aload 46 C dX11_findHost_44 rfl rfl ?_
        exact x_aret (r := some _) C dX11_findHost_46 rfl ⟨by rw [rHostOf_one (i := k.toNat) ⟨h32, h41⟩ (R 3 0).toNat (by omega) (fun j hj q1 q2 => iU.1 j k.toNat (by omega) (by omega) (q1.trans h32.symm) (q2.trans h41.symm)), show ((k.toNat : Nat) : Int) = k by omega, rkOp_s i1], rfl⟩
set_option maxHeartbeats 2000000 in
set_option maxRecDepth 100000 in
theorem c_X11_findAddress {E : EV} {l : Launch} {G : GT} {B : Nat → Nat} {R : RT} (hW : rkW G B R) {a b c1 d1 : Int} (hb : 0 ≤ b ∧ b < R 3 0) (ha : InR a) (hc : InR c1) (hd : InR d1) : MT E l yX11_findAddress cX11_findAddress 7 (some (.object "HopRules$Address")) 3 64 0 0 [.ref (B 0), .int (i32 a), .ref (rkAt G (B 1) b), .int (i32 c1), .int (i32 d1)] G (pD (some (va_rf (rkOp G (B 2) (rFnd R a b c1 d1)))) (G)) := by
  refine mt_of (own := RX11) (L := [some (.ref (B 0)), some (.int (i32 a)), some (.ref (rkAt G (B 1) b)), some (.int (i32 c1)), some (.int (i32 d1)), none, none]) (by decide +kernel) rfl (Nat.le_of_ble_eq_true rfl) (List.forall_mem_cons.mpr ⟨rfl, (List.forall_mem_cons.mpr ⟨rfl, (List.forall_mem_cons.mpr ⟨rfl, (List.forall_mem_cons.mpr ⟨rfl, (List.forall_mem_cons.mpr ⟨rfl, (fun _ h => absurd h List.not_mem_nil)⟩)⟩)⟩)⟩)⟩) rfl ?_
  intro p e s m args below meth c C hin
  refine x_wf (fun hw => ?_)
  obtain ⟨hB, hH, hA, hP, hI⟩ := id hW
  obtain ⟨⟨b0, b6, b7⟩, ⟨bk1, bk2, bk3, bk4, bk5, bk8, bk9⟩, ⟨bp0, bp1, bp2, bp3, bp4, bp5, bp6, bp7, bp8⟩, -⟩ := id hB
  obtain ⟨hl1, hh1⟩ := id hH
  obtain ⟨hl2, hh2⟩ := id hA
  obtain ⟨hl3, hh3⟩ := id hP
  obtain ⟨iH, iA, iAd, iHl, iP, iS, hRw, iU⟩ := id hI
  have iH1 := iH.1
  have iA1 := iA.1
  have iA2 := iA.2
  have iP1 := iP.1
  refine x_iconst 1 C dX11_findAddress_0 rfl ?_
  refine x_istore 3 C dX11_findAddress_1 rfl rfl rfl ?_
  refine x_loop (α := Int) (fun k => (25 - k).toNat) (fun k => 0 ≤ k ∧ k ≤ R 7 0 ∧ ∀ j : Nat, (j : Int) < k → ¬ (R 8 j = a ∧ R 9 j = b ∧ R 10 j = c1 ∧ R 11 j = d1)) (fun k => G) (fun k => [some (.ref (B 0)), some (.int (i32 a)), some (.ref (rkAt G (B 1) b)), some (.int (i32 c1)), some (.int (i32 d1)), some (.int (i32 k)), none]) (fun _ => []) 0 ⟨by omega, by omega, fun j hj => by omega⟩ rfl rfl rfl ?_
  intro aa hI ih
  obtain ⟨k, rfl⟩ := (⟨aa, rfl⟩ : ∃ z, z = aa)
  (try dsimp only at hI); (try dsimp only at ih); (try dsimp only)
  obtain ⟨i1, i2, i3⟩ := hI
  refine x_iload 5 C dX11_findAddress_3 rfl rfl ?_
  refine x_aload_n 6 C dX11_findAddress_5 rfl rfl ?_
  refine x_getO 9 1401 C fr_X11_16 dX11_findAddress_6 rfl rfl rfl rfl (by assumption) (by assumption) ?_
  refine x_callL (As := []) (ci := 2) 12 0 0 C vw_X11_66 iw_Jx4a65c_size_8abf5 sw_Jx4a65c_size_8abf5 (c_sizev (by assumption) hl2) dX11_findAddress_9 rfl rfl rfl rfl rfl (Or.inr (Or.inr ⟨rfl, (by assumption)⟩)) ⟨Nat.le_of_ble_eq_true rfl, Nat.le_of_ble_eq_true rfl⟩ (Nat.le_of_ble_eq_true rfl) ⟨Nat.le_refl _, Nat.le_refl _⟩ (fun v G' hq => ?_)
  obtain ⟨rfl, hG9⟩ := hq
  replace hG9 := hG9.symm
  subst hG9
  refine x_as rfl rfl rfl ?_
  refine x_icmp_ge 15 75 C dX11_findAddress_12 rfl (by decide) (by first | exact hRw _ _ | assumption | exact ⟨by omega, by omega⟩ | exact hw.1 _ _ | omega) (by first | exact hRw _ _ | assumption | exact ⟨by omega, by omega⟩ | exact hw.1 _ _ | omega) (fun h12 => ?_) (fun h12 => ?_)
  · skip
    refine x_null 76 C dX11_findAddress_75 rfl ?_
    exact x_aret C dX11_findAddress_76 rfl ⟨by rw [show rFnd R a b c1 d1 = -1 from rFind_no (R 7 0).toNat (fun j hj => i3 j (by omega)), rkOp_n], rfl⟩
  · skip
    obtain ⟨⟨f1, f2, f3, f4, f5, f6⟩, -⟩ := hh2 k i1 (by omega)
    obtain ⟨u1, u2, u3, u4, -⟩ := iAd k.toNat (by omega)
    refine x_aload_n 16 C dX11_findAddress_15 rfl rfl ?_
    refine x_getO 19 1401 C fr_X11_16 dX11_findAddress_16 rfl rfl rfl rfl (by assumption) (by assumption) ?_
    refine x_iload 21 C dX11_findAddress_19 rfl rfl ?_
    refine x_callL (As := [_]) (ci := 2) 24 0 0 C vw_X11_151 iw_Jx4a65c_get_915e3 sw_Jx4a65c_get_915e3 (c_get (x := rkAt G (B 2) k) (by assumption) (by omega) (rkAt_get hl2 (by omega) (by omega))) dX11_findAddress_21 rfl rfl rfl rfl rfl (Or.inr (Or.inr ⟨rfl, (by assumption)⟩)) ⟨Nat.le_of_ble_eq_true rfl, Nat.le_of_ble_eq_true rfl⟩ (Nat.le_of_ble_eq_true rfl) ⟨Nat.le_refl _, Nat.le_refl _⟩ (fun v G' hq => ?_)
    obtain ⟨rfl, hG9⟩ := hq
    replace hG9 := hG9.symm
    subst hG9
    refine x_as rfl rfl rfl ?_
    refine x_cast 27 C ck_X11_111 rfl rfl ((hh2 k i1 (by omega)).1.1) dX11_findAddress_24 rfl ?_
    refine x_astore 29 C dX11_findAddress_27 rfl rfl rfl ?_
    refine x_aload 31 C dX11_findAddress_29 rfl rfl ?_
    refine x_getIv 34 301 C fr_X11_121 dX11_findAddress_31 rfl rfl rfl rfl (by assumption) (by first | assumption | rfl) ?_
    refine x_iload_n 35 C dX11_findAddress_34 rfl rfl ?_
    refine x_icmp_ne 38 69 C dX11_findAddress_35 rfl (by decide) (by first | exact hRw _ _ | assumption | exact ⟨by omega, by omega⟩ | exact hw.1 _ _ | omega) (by first | exact hRw _ _ | assumption | exact ⟨by omega, by omega⟩ | exact hw.1 _ _ | omega) (fun h35 => ?_) (fun h35 => ?_)
    · skip
      have hno : ¬ (R 8 k.toNat = a ∧ R 9 k.toNat = b ∧ R 10 k.toNat = c1 ∧ R 11 k.toNat = d1) := fun z => h35 z.1
      refine x_iinc 72 C dX11_findAddress_69 rfl rfl rfl rfl ?_
      refine x_goto 3 C dX11_findAddress_72 (by decide) ?_
      refine x_as rfl rfl rfl (x_less ?_ (ih (k + 1) ⟨by omega, by omega, fun j hj z => by (exact (if c : (j : Int) = k then hno (by rw [← c, Int.toNat_natCast]; exact z) else i3 j (by omega) z))⟩ (by (try dsimp only); omega))); exact ⟨rfl, rfl, rfl, rfl, rfl, rfl, trivial⟩
    · skip
      refine x_aload 40 C dX11_findAddress_38 rfl rfl ?_
      refine x_getO 43 302 C fr_X11_124 dX11_findAddress_40 rfl rfl rfl rfl (by assumption) (by assumption) ?_
      refine x_aload_n 44 C dX11_findAddress_43 rfl rfl ?_
      refine x_acmp_ne (rx := some _) (ry := some _) 47 69 C dX11_findAddress_44 rfl (by decide) (fun h44 => ?_) (fun h44 => ?_)
      · skip
        have hno : ¬ (R 8 k.toNat = a ∧ R 9 k.toNat = b ∧ R 10 k.toNat = c1 ∧ R 11 k.toNat = d1) := fun z => h44 (by rw [z.2.1])
        refine x_iinc 72 C dX11_findAddress_69 rfl rfl rfl rfl ?_
        refine x_goto 3 C dX11_findAddress_72 (by decide) ?_
        refine x_as rfl rfl rfl (x_less ?_ (ih (k + 1) ⟨by omega, by omega, fun j hj z => by (exact (if c : (j : Int) = k then hno (by rw [← c, Int.toNat_natCast]; exact z) else i3 j (by omega) z))⟩ (by (try dsimp only); omega))); exact ⟨rfl, rfl, rfl, rfl, rfl, rfl, trivial⟩
      · skip
        have h44 := rkAt_inj (f := 800) (fun i a b => (hh1 i a b).2.1) u2 hb (Option.some.inj h44)
        refine x_aload 49 C dX11_findAddress_47 rfl rfl ?_
        refine x_getIv 52 303 C fr_X11_128 dX11_findAddress_49 rfl rfl rfl rfl (by assumption) (by first | assumption | rfl) ?_
        refine x_iload_n 53 C dX11_findAddress_52 rfl rfl ?_
        refine x_icmp_ne 56 69 C dX11_findAddress_53 rfl (by decide) (by first | exact hRw _ _ | assumption | exact ⟨by omega, by omega⟩ | exact hw.1 _ _ | omega) (by first | exact hRw _ _ | assumption | exact ⟨by omega, by omega⟩ | exact hw.1 _ _ | omega) (fun h53 => ?_) (fun h53 => ?_)
        · skip
          have hno : ¬ (R 8 k.toNat = a ∧ R 9 k.toNat = b ∧ R 10 k.toNat = c1 ∧ R 11 k.toNat = d1) := fun z => h53 z.2.2.1
          refine x_iinc 72 C dX11_findAddress_69 rfl rfl rfl rfl ?_
          refine x_goto 3 C dX11_findAddress_72 (by decide) ?_
          refine x_as rfl rfl rfl (x_less ?_ (ih (k + 1) ⟨by omega, by omega, fun j hj z => by (exact (if c : (j : Int) = k then hno (by rw [← c, Int.toNat_natCast]; exact z) else i3 j (by omega) z))⟩ (by (try dsimp only); omega))); exact ⟨rfl, rfl, rfl, rfl, rfl, rfl, trivial⟩
        · skip
          refine x_aload 58 C dX11_findAddress_56 rfl rfl ?_
          refine x_getIv 61 304 C fr_X11_110 dX11_findAddress_58 rfl rfl rfl rfl (by assumption) (by first | assumption | rfl) ?_
          refine x_iload 63 C dX11_findAddress_61 rfl rfl ?_
          refine x_icmp_ne 66 69 C dX11_findAddress_63 rfl (by decide) (by first | exact hRw _ _ | assumption | exact ⟨by omega, by omega⟩ | exact hw.1 _ _ | omega) (by first | exact hRw _ _ | assumption | exact ⟨by omega, by omega⟩ | exact hw.1 _ _ | omega) (fun h63 => ?_) (fun h63 => ?_)
          · skip
            have hno : ¬ (R 8 k.toNat = a ∧ R 9 k.toNat = b ∧ R 10 k.toNat = c1 ∧ R 11 k.toNat = d1) := fun z => h63 z.2.2.2
            refine x_iinc 72 C dX11_findAddress_69 rfl rfl rfl rfl ?_
            refine x_goto 3 C dX11_findAddress_72 (by decide) ?_
            refine x_as rfl rfl rfl (x_less ?_ (ih (k + 1) ⟨by omega, by omega, fun j hj z => by (exact (if c : (j : Int) = k then hno (by rw [← c, Int.toNat_natCast]; exact z) else i3 j (by omega) z))⟩ (by (try dsimp only); omega))); exact ⟨rfl, rfl, rfl, rfl, rfl, rfl, trivial⟩
          · skip
            refine x_aload 68 C dX11_findAddress_66 rfl rfl ?_
            exact x_aret (r := some _) C dX11_findAddress_68 rfl ⟨by rw [show rFnd R a b c1 d1 = k from (rFind_one (i := k.toNat) ⟨h35, h44, h53, h63⟩ (R 7 0).toNat (by omega) (fun j hj q1 q2 q3 q4 => iU.2.1 j k.toNat (by omega) (by omega) (q1.trans h35.symm) (q2.trans h44.symm) (q3.trans h53.symm) (q4.trans h63.symm))).trans (by omega), rkOp_s i1], rfl⟩
