/-! rows laid by program (wip/tools/genp.py) -/
set_option maxHeartbeats 2000000 in
set_option maxRecDepth 100000 in
theorem c_X11_hostAt {E : EV} {l : Launch} {G : GT} {B : Nat → Nat} {R : RT} (hW : rkW G B R) {i : Int} (hx : InR i) (hl : l.stackTraces = false) : MX E l yX11_hostAt cX11_hostAt 2 (some (.object "HopRules$Host")) 6 84 1 6 [.ref (B 0), .int (i32 i)] G (fun v G' => v = some (.ref (rkAt G (B 1) i)) ∧ G' = G ∧ (0 ≤ i ∧ i < R 3 0)) (fun nx G' => nx = "java/lang/IndexOutOfBoundsException" ∧ G' = G ∧ ¬ (0 ≤ i ∧ i < R 3 0)) := by
  refine mx_of (own := RX11) (L := [some (.ref (B 0)), some (.int (i32 i))]) (by decide +kernel) rfl (Nat.le_of_ble_eq_true rfl) (List.forall_mem_cons.mpr ⟨rfl, (List.forall_mem_cons.mpr ⟨rfl, (fun _ h => absurd h List.not_mem_nil)⟩)⟩) rfl ?_
  intro p e s m args below meth c C hin htab
  refine x_wf (fun hw => ?_)
  obtain ⟨hB, hH, hA, hP, hI⟩ := id hW
  obtain ⟨⟨b0, b6, b7⟩, ⟨bk1, bk2, bk3, bk4, bk5, bk8, bk9⟩, ⟨bp0, bp1, bp2, bp3, bp4, bp5, bp6, bp7, bp8⟩, hbne⟩ := id hB
  obtain ⟨hl1, hh1⟩ := id hH
  obtain ⟨hl2, hh2⟩ := id hA
  obtain ⟨hl3, hh3⟩ := id hP
  obtain ⟨iH, iA, iAd, iHl, iP, iS, hRw, iU⟩ := id hI
  have iH1 := iH.1
  have iA1 := iA.1
  have iA2 := iA.2
  have iP1 := iP.1
  refine x_iload_n 1 C dX11_hostAt_0 rfl rfl ?_
  refine x_if_lt 4 15 C dX11_hostAt_1 rfl (by decide) (by first | exact hRw _ _ | assumption | exact ⟨by omega, by omega⟩ | exact hw.1 _ _ | omega) (fun h1 => ?_) (fun h1 => ?_)
  · skip
    exact x_throw (text := "no such host") C hl htab tqI (by decide +kernel) dX11_hostAt_15 dX11_hostAt_18 dX11_hostAt_19 dX11_hostAt_21 dX11_hostAt_24 ⟨Nat.le_of_ble_eq_true rfl, Nat.le_of_ble_eq_true rfl⟩ ⟨by omega, by omega⟩ ⟨rfl, rfl, by omega⟩
  · skip
    refine x_iload_n 5 C dX11_hostAt_4 rfl rfl ?_
    refine x_aload_n 6 C dX11_hostAt_5 rfl rfl ?_
    refine x_getO 9 1400 C fr_X11_10 dX11_hostAt_6 rfl rfl rfl rfl (by assumption) (by assumption) ?_
    refine x_callL (As := []) (ci := 2) 12 1 6 C vw_X11_66 iw_Jx4a65c_size_8abf5 sw_Jx4a65c_size_8abf5 (c_sizev (by assumption) hl1) dX11_hostAt_9 rfl rfl rfl rfl rfl (Or.inr (Or.inr ⟨rfl, (by assumption)⟩)) ⟨Nat.le_of_ble_eq_true rfl, Nat.le_of_ble_eq_true rfl⟩ (Nat.le_of_ble_eq_true rfl) ⟨Nat.le_refl _, Nat.le_refl _⟩ (fun v G' hq => ?_)
    obtain ⟨rfl, hG9⟩ := hq
    replace hG9 := hG9.symm
    subst hG9
    refine x_as rfl rfl rfl ?_
    refine x_icmp_lt 15 25 C dX11_hostAt_12 rfl (by decide) (by first | exact hRw _ _ | assumption | exact ⟨by omega, by omega⟩ | exact hw.1 _ _ | omega) (by first | exact hRw _ _ | assumption | exact ⟨by omega, by omega⟩ | exact hw.1 _ _ | omega) (fun h12 => ?_) (fun h12 => ?_)
    · skip
      refine x_aload_n 26 C dX11_hostAt_25 rfl rfl ?_
      refine x_getO 29 1400 C fr_X11_10 dX11_hostAt_26 rfl rfl rfl rfl (by assumption) (by assumption) ?_
      refine x_iload_n 30 C dX11_hostAt_29 rfl rfl ?_
      refine x_callL (As := [_]) (ci := 2) 33 1 6 C vw_X11_151 iw_Jx4a65c_get_915e3 sw_Jx4a65c_get_915e3 (c_get (x := rkAt G (B 1) i) (by assumption) (by omega) (rkAt_get hl1 (by omega) (by omega))) dX11_hostAt_30 rfl rfl rfl rfl rfl (Or.inr (Or.inr ⟨rfl, (by assumption)⟩)) ⟨Nat.le_of_ble_eq_true rfl, Nat.le_of_ble_eq_true rfl⟩ (Nat.le_of_ble_eq_true rfl) ⟨Nat.le_refl _, Nat.le_refl _⟩ (fun v G' hq => ?_)
      obtain ⟨rfl, hG9⟩ := hq
      replace hG9 := hG9.symm
      subst hG9
      refine x_as rfl rfl rfl ?_
      refine x_cast 36 C ck_X11_58 rfl rfl ((hh1 i (by omega) (by omega)).1) dX11_hostAt_33 rfl ?_
      exact x_through (x_aret (r := some _) C dX11_hostAt_36 rfl ⟨rfl, rfl, by omega, by omega⟩)
    · skip
      exact x_throw (text := "no such host") C hl htab tqI (by decide +kernel) dX11_hostAt_15 dX11_hostAt_18 dX11_hostAt_19 dX11_hostAt_21 dX11_hostAt_24 ⟨Nat.le_of_ble_eq_true rfl, Nat.le_of_ble_eq_true rfl⟩ ⟨by omega, by omega⟩ ⟨rfl, rfl, by omega⟩
set_option maxHeartbeats 2000000 in
set_option maxRecDepth 100000 in
theorem c_X5_siteHost {E : EV} {l : Launch} {G : GT} {B : Nat → Nat} {R : RT} (hW : rkW G B R) {i : Int} (h0 : 0 ≤ i ∧ i < R 3 0) : MT E l yX5_siteHost cX5_siteHost 2 (some (.object "HopRules$Host")) 0 0 0 0 [.ref (rkAt G (B 1) i)] G (pD (some (.ref (rkAt G (B 1) (rSiteOf R i)))) (G)) := by
  refine mt_of (own := RX5) (L := [some (.ref (rkAt G (B 1) i)), none]) (by decide +kernel) rfl (Nat.le_of_ble_eq_true rfl) (List.forall_mem_cons.mpr ⟨rfl, (fun _ h => absurd h List.not_mem_nil)⟩) rfl ?_
  intro p e s m args below meth c C hin
  refine x_wf (fun hw => ?_)
  obtain ⟨hB, hH, hA, hP, hI⟩ := id hW
  obtain ⟨⟨b0, b6, b7⟩, ⟨bk1, bk2, bk3, bk4, bk5, bk8, bk9⟩, ⟨bp0, bp1, bp2, bp3, bp4, bp5, bp6, bp7, bp8⟩, hbne⟩ := id hB
  obtain ⟨hl1, hh1⟩ := id hH
  obtain ⟨hl2, hh2⟩ := id hA
  obtain ⟨hl3, hh3⟩ := id hP
  obtain ⟨iH, iA, iAd, iHl, iP, iS, hRw, iU⟩ := id hI
  have iH1 := iH.1
  have iA1 := iA.1
  have iA2 := iA.2
  have iP1 := iP.1
  refine x_aload_n 1 C dX5_siteHost_0 rfl rfl ?_
  refine x_astore_n 2 C dX5_siteHost_1 rfl rfl rfl ?_
  refine x_loop (α := Int) (fun k => k.toNat) (fun k => 0 ≤ k ∧ k < R 3 0 ∧ (k = i ∨ (R 6 k.toNat = 0 ∧ R 6 i.toNat = 0)) ∧ rUp R 16 k = rUp R 16 i) (fun k => G) (fun k => [some (.ref (rkAt G (B 1) i)), some (.ref (rkAt G (B 1) k))]) (fun _ => []) i ⟨h0.1, h0.2, Or.inl rfl, rfl⟩ rfl rfl rfl ?_
  intro aa hI ih
  obtain ⟨k, rfl⟩ := (⟨aa, rfl⟩ : ∃ z, z = aa)
  (try dsimp only at hI); (try dsimp only at ih); (try dsimp only)
  obtain ⟨i1, i2, i3, i4⟩ := hI
  obtain ⟨f1, f2, f3, f4, f5, f6⟩ := hh1 k i1 i2
  have hu := iH.2 k.toNat (by omega)
  refine x_aload_n 3 C dX5_siteHost_2 rfl rfl ?_
  refine x_getIv 6 804 C fr_X5_25 dX5_siteHost_3 rfl rfl rfl rfl (by assumption) (by first | assumption | rfl) ?_
  refine x_if_ne 9 34 C dX5_siteHost_6 rfl (by decide) (by first | exact hRw _ _ | assumption | exact ⟨by omega, by omega⟩ | exact hw.1 _ _ | omega) (fun h6 => ?_) (fun h6 => ?_)
  · skip
    refine x_aload_n 35 C dX5_siteHost_34 rfl rfl ?_
    exact x_aret (r := some _) C dX5_siteHost_35 rfl ⟨by rw [show rSiteOf R i = k from by (have z : k = i := i3.elim id (fun z => absurd z.1 h6); subst z; exact if_pos h6)]; rfl, rfl⟩
  · skip
    refine x_aload_n 10 C dX5_siteHost_9 rfl rfl ?_
    refine x_getPv 13 801 C fr_X5_15 dX5_siteHost_10 rfl rfl rfl rfl (by assumption) (by first | assumption | rfl) ?_
    refine x_ifnull 16 34 C dX5_siteHost_13 rfl (by decide) (fun h13 => ?_) (fun a13 h13 => ?_)
    · skip
      refine x_aload_n 35 C dX5_siteHost_34 rfl rfl ?_
      exact x_aret (r := some _) C dX5_siteHost_35 rfl ⟨by rw [show rSiteOf R i = k from by (have z : R 6 i.toNat = 0 := i3.elim (fun z => by rw [← z]; exact h6) (fun z => z.2); unfold rSiteOf; rw [if_neg (fun q => q z), ← i4]; exact rUp_stop (Or.inl (rkOp_none h13)))]; rfl, rfl⟩
    · skip
      have n13 := rkOp_some h13
      have f3b := f3.trans (rkOp_s (show 0 ≤ R 4 k.toNat by omega))
      obtain ⟨g1, g2, g3, g4, g5, g6⟩ := hh1 (R 4 k.toNat) (by omega) (by omega)
      refine x_aload_n 17 C dX5_siteHost_16 rfl rfl ?_
      refine x_getO 20 801 C fr_X5_15 dX5_siteHost_17 rfl rfl rfl rfl (by assumption) (by assumption) ?_
      refine x_getIv 23 804 C fr_X5_25 dX5_siteHost_20 rfl rfl rfl rfl (by assumption) (by first | assumption | rfl) ?_
      refine x_if_ne 26 34 C dX5_siteHost_23 rfl (by decide) (by first | exact hRw _ _ | assumption | exact ⟨by omega, by omega⟩ | exact hw.1 _ _ | omega) (fun h23 => ?_) (fun h23 => ?_)
      · skip
        refine x_aload_n 35 C dX5_siteHost_34 rfl rfl ?_
        exact x_aret (r := some _) C dX5_siteHost_35 rfl ⟨by rw [show rSiteOf R i = k from by (have z : R 6 i.toNat = 0 := i3.elim (fun z => by rw [← z]; exact h6) (fun z => z.2); unfold rSiteOf; rw [if_neg (fun q => q z), ← i4]; exact rUp_stop (Or.inr h23))]; rfl, rfl⟩
      · skip
        refine x_aload_n 27 C dX5_siteHost_26 rfl rfl ?_
        refine x_getO 30 801 C fr_X5_15 dX5_siteHost_27 rfl rfl rfl rfl (by assumption) (by assumption) ?_
        refine x_astore_n 31 C dX5_siteHost_30 rfl rfl rfl ?_
        refine x_goto 2 C dX5_siteHost_31 (by decide) ?_
        exact ih (R 4 k.toNat) ⟨by omega, by omega, Or.inr ⟨h23, i3.elim (fun z => by rw [← z]; exact h6) (fun z => z.2)⟩, by rw [← i4]; exact (rUp_step iH i1 i2 n13.1 h23).symm⟩ (by (try dsimp only); omega)
set_option maxHeartbeats 2000000 in
set_option maxRecDepth 100000 in
theorem c_X5_isIn {E : EV} {l : Launch} {G : GT} {B : Nat → Nat} {R : RT} (hW : rkW G B R) {i j : Int} (h0 : 0 ≤ i ∧ i < R 3 0) (hj : 0 ≤ j ∧ j < R 3 0) : MT E l yX5_isIn cX5_isIn 3 (some .boolean) 0 0 0 0 [.ref (rkAt G (B 1) i), .ref (rkAt G (B 1) j)] G (pD (some (.int (i32 (bI (rIn R i j))))) (G)) := by
  refine mt_of (own := RX5) (L := [some (.ref (rkAt G (B 1) i)), some (.ref (rkAt G (B 1) j)), none]) (by decide +kernel) rfl (Nat.le_of_ble_eq_true rfl) (List.forall_mem_cons.mpr ⟨rfl, (List.forall_mem_cons.mpr ⟨rfl, (fun _ h => absurd h List.not_mem_nil)⟩)⟩) rfl ?_
  intro p e s m args below meth c C hin
  refine x_wf (fun hw => ?_)
  obtain ⟨hB, hH, hA, hP, hI⟩ := id hW
  obtain ⟨⟨b0, b6, b7⟩, ⟨bk1, bk2, bk3, bk4, bk5, bk8, bk9⟩, ⟨bp0, bp1, bp2, bp3, bp4, bp5, bp6, bp7, bp8⟩, hbne⟩ := id hB
  obtain ⟨hl1, hh1⟩ := id hH
  obtain ⟨hl2, hh2⟩ := id hA
  obtain ⟨hl3, hh3⟩ := id hP
  obtain ⟨iH, iA, iAd, iHl, iP, iS, hRw, iU⟩ := id hI
  have iH1 := iH.1
  have iA1 := iA.1
  have iA2 := iA.2
  have iP1 := iP.1
  refine x_aload_n 1 C dX5_isIn_0 rfl rfl ?_
  refine x_astore_n 2 C dX5_isIn_1 rfl rfl rfl ?_
  refine x_loop (α := Int) (fun k => (k + 1).toNat) (fun k => -1 ≤ k ∧ k < R 3 0 ∧ rIn R k j = rIn R i j) (fun k => G) (fun k => [some (.ref (rkAt G (B 1) i)), some (.ref (rkAt G (B 1) j)), some (va_rf (rkOp G (B 1) k))]) (fun _ => []) i ⟨by omega, h0.2, rfl⟩ rfl (by rw [rkOp_s h0.1]; rfl) rfl ?_
  intro aa hI ih
  obtain ⟨k, rfl⟩ := (⟨aa, rfl⟩ : ∃ z, z = aa)
  (try dsimp only at hI); (try dsimp only at ih); (try dsimp only)
  obtain ⟨i1, i2, i3⟩ := hI
  have hu := iH.2 k.toNat
  refine x_aload_nq 3 C dX5_isIn_2 rfl rfl ?_
  refine x_ifnull 6 21 C dX5_isIn_3 rfl (by decide) (fun h3 => ?_) (fun a3 h3 => ?_)
  · skip
    have n3 := rkOp_none h3
    refine x_iconst 22 C dX5_isIn_21 rfl ?_
    exact x_iret C dX5_isIn_22 rfl ⟨vi (by rw [← i3, rIn_stop (Or.inl n3), n3, decide_eq_false (by omega)]; rfl), rfl⟩
  · skip
    have n3 := rkOp_some h3
    obtain ⟨f1, f2, f3, f4, f5, f6⟩ := hh1 k (by omega) i2
    have hu := hu (by omega)
    rw [rkOp_s (show 0 ≤ k by omega)]
    refine x_aload_n 7 C dX5_isIn_6 rfl rfl ?_
    refine x_aload_n 8 C dX5_isIn_7 rfl rfl ?_
    refine x_acmp_ne (rx := some _) (ry := some _) 11 13 C dX5_isIn_8 rfl (by decide) (fun h8 => ?_) (fun h8 => ?_)
    · skip
      refine x_aload_n 14 C dX5_isIn_13 rfl rfl ?_
      refine x_getPv 17 801 C fr_X5_15 dX5_isIn_14 rfl rfl rfl rfl (by assumption) (by first | assumption | rfl) ?_
      refine x_astore_nq 18 C dX5_isIn_17 rfl rfl rfl ?_
      refine x_goto 2 C dX5_isIn_18 (by decide) ?_
      refine x_as rfl (by (try dsimp only); rfl) rfl (ih (R 4 k.toNat) ⟨by omega, by omega, by rw [← i3]; exact (rIn_step iH i1 i2 n3.1 (fun z => h8 (by rw [z]))).symm⟩ (by (try dsimp only); omega))
    · skip
      refine x_iconst 12 C dX5_isIn_11 rfl ?_
      exact x_iret C dX5_isIn_12 rfl ⟨vi (by have hkj := rkAt_inj (f := 800) (fun i a b => (hh1 i a b).2.1) ⟨by omega, i2⟩ hj (Option.some.inj h8); rw [← i3, rIn_stop (Or.inr hkj), hkj, decide_eq_true rfl]; rfl), rfl⟩
set_option maxHeartbeats 2000000 in
set_option maxRecDepth 100000 in
theorem c_X0_siteCode {E : EV} {l : Launch} {G : GT} {B : Nat → Nat} {R : RT} (hW : rkW G B R) {i : Int} (h0 : 0 ≤ i ∧ i < R 7 0) : MT E l yX0_siteCode cX0_siteCode 1 (some .int) 1 21 0 0 [.ref (rkAt G (B 2) i)] G (pD (some (.int (i32 (2 * rSiteOf R (R 9 i.toNat) + R 8 i.toNat)))) (G)) := by
  refine mt_of (own := RX0) (L := [some (.ref (rkAt G (B 2) i))]) (by decide +kernel) rfl (Nat.le_of_ble_eq_true rfl) (List.forall_mem_cons.mpr ⟨rfl, (fun _ h => absurd h List.not_mem_nil)⟩) rfl ?_
  intro p e s m args below meth c C hin
  refine x_wf (fun hw => ?_)
  obtain ⟨hB, hH, hA, hP, hI⟩ := id hW
  obtain ⟨⟨b0, b6, b7⟩, ⟨bk1, bk2, bk3, bk4, bk5, bk8, bk9⟩, ⟨bp0, bp1, bp2, bp3, bp4, bp5, bp6, bp7, bp8⟩, hbne⟩ := id hB
  obtain ⟨hl1, hh1⟩ := id hH
  obtain ⟨hl2, hh2⟩ := id hA
  obtain ⟨hl3, hh3⟩ := id hP
  obtain ⟨iH, iA, iAd, iHl, iP, iS, hRw, iU⟩ := id hI
  have iH1 := iH.1
  have iA1 := iA.1
  have iA2 := iA.2
  have iP1 := iP.1
  obtain ⟨⟨a1, a2, a3, a4, a5, a6⟩, ⟨w, a7, a8, a9⟩, ⟨a10, a11, a12, a13, a14, a15⟩, a16⟩ := hh2 i h0.1 h0.2
  obtain ⟨d1, d2, d3⟩ := iAd i.toNat (by omega)
  have hs := rSiteOf_in iH d2.1 d2.2
  obtain ⟨e1, e2, e3, e4, e5, e6⟩ := hh1 (R 9 i.toNat) d2.1 d2.2
  obtain ⟨f1, f2, f3, f4, f5, f6⟩ := hh1 (rSiteOf R (R 9 i.toNat)) hs.1 hs.2
  refine x_iconst 1 C dX0_siteCode_0 rfl ?_
  refine x_aload_n 2 C dX0_siteCode_1 rfl rfl ?_
  refine x_getO 5 302 C fr_X0_18 dX0_siteCode_2 rfl rfl rfl rfl (by assumption) (by assumption) ?_
  refine x_callV (As := []) 8 8 0 0 C vw_X0_67 iw_X5_siteHost sw_X5_siteHost (c_X5_siteHost hW ⟨by omega, by omega⟩) dX0_siteCode_5 rfl rfl rfl rfl rfl rfl (by assumption) ⟨Nat.le_of_ble_eq_true rfl, Nat.le_of_ble_eq_true rfl⟩ (Nat.le_of_ble_eq_true rfl) ⟨Nat.le_refl _, Nat.le_refl _⟩ (fun v G' hq => ?_)
  obtain ⟨rfl, hG9⟩ := hq
  replace hG9 := hG9.symm
  subst hG9
  refine x_as rfl rfl rfl ?_
  refine x_getIv 11 800 C fr_X0_66 dX0_siteCode_8 rfl rfl rfl rfl (by assumption) (by first | assumption | rfl) ?_
  refine x_imul 12 C dX0_siteCode_11 rfl ?_
  refine x_aload_n 13 C dX0_siteCode_12 rfl rfl ?_
  refine x_getIv 16 301 C fr_X0_15 dX0_siteCode_13 rfl rfl rfl rfl (by assumption) (by first | assumption | rfl) ?_
  refine x_iadd 17 C dX0_siteCode_16 rfl ?_
  exact x_iret C dX0_siteCode_17 rfl ⟨vi (rfl), rfl⟩
set_option maxHeartbeats 2000000 in
set_option maxRecDepth 100000 in
theorem c_X0_origin {E : EV} {l : Launch} {G : GT} {B : Nat → Nat} {R : RT} (hW : rkW G B R) {i : Int} (h0 : 0 ≤ i ∧ i < R 7 0) : MT E l yX0_origin cX0_origin 2 (some .int) 0 0 0 0 [.ref (rkAt G (B 2) i)] G (pD (some (.int (i32 (rkOrg R i)))) (G)) := by
  refine mt_of (own := RX0) (L := [some (.ref (rkAt G (B 2) i)), none]) (by decide +kernel) rfl (Nat.le_of_ble_eq_true rfl) (List.forall_mem_cons.mpr ⟨rfl, (fun _ h => absurd h List.not_mem_nil)⟩) rfl ?_
  intro p e s m args below meth c C hin
  refine x_wf (fun hw => ?_)
  obtain ⟨hB, hH, hA, hP, hI⟩ := id hW
  obtain ⟨⟨b0, b6, b7⟩, ⟨bk1, bk2, bk3, bk4, bk5, bk8, bk9⟩, ⟨bp0, bp1, bp2, bp3, bp4, bp5, bp6, bp7, bp8⟩, hbne⟩ := id hB
  obtain ⟨hl1, hh1⟩ := id hH
  obtain ⟨hl2, hh2⟩ := id hA
  obtain ⟨hl3, hh3⟩ := id hP
  obtain ⟨iH, iA, iAd, iHl, iP, iS, hRw, iU⟩ := id hI
  have iH1 := iH.1
  have iA1 := iA.1
  have iA2 := iA.2
  have iP1 := iP.1
  obtain ⟨⟨a1, a2, a3, a4, a5, a6⟩, ⟨w, a7, a8, a9⟩, ⟨a10, a11, a12, a13, a14, a15⟩, a16⟩ := hh2 i h0.1 h0.2
  obtain ⟨d1, d2, d3, d4⟩ := iAd i.toNat (by omega)
  obtain ⟨f1, f2, f3, f4, f5, f6⟩ := hh1 (R 9 i.toNat) d2.1 d2.2
  refine x_joinv 16 (fun vJ => vJ = if R 8 i.toNat = 1 then 443 else 80) ?_ (fun hJ16 => ?_)
  · intro vJ hJ
    subst hJ
    refine x_istore_n 17 C dX0_origin_16 rfl rfl rfl ?_
    refine x_iconst 18 C dX0_origin_17 rfl ?_
    refine x_aload_n 19 C dX0_origin_18 rfl rfl ?_
    refine x_getO 22 302 C fr_X0_18 dX0_origin_19 rfl rfl rfl rfl (by assumption) (by assumption) ?_
    refine x_getIv 25 800 C fr_X0_66 dX0_origin_22 rfl rfl rfl rfl (by assumption) (by first | assumption | rfl) ?_
    refine x_imul 26 C dX0_origin_25 rfl ?_
    refine x_aload_n 27 C dX0_origin_26 rfl rfl ?_
    refine x_getIv 30 301 C fr_X0_15 dX0_origin_27 rfl rfl rfl rfl (by assumption) (by first | assumption | rfl) ?_
    refine x_iadd 31 C dX0_origin_30 rfl ?_
    refine x_sipush 34 C dX0_origin_31 rfl (by decide) ?_
    refine x_imul 35 C dX0_origin_34 rfl ?_
    refine x_aload_n 36 C dX0_origin_35 rfl rfl ?_
    refine x_getIv 39 303 C fr_X0_22 dX0_origin_36 rfl rfl rfl rfl (by assumption) (by first | assumption | rfl) ?_
    refine x_if_ne 42 46 C dX0_origin_39 rfl (by decide) (by first | exact hRw _ _ | (split <;> exact ⟨by omega, by omega⟩) | assumption | exact ⟨by omega, by omega⟩ | exact hw.1 _ _ | omega) (fun h39 => ?_) (fun h39 => ?_)
    · skip
      refine x_aload_n 47 C dX0_origin_46 rfl rfl ?_
      refine x_getIv 50 303 C fr_X0_22 dX0_origin_47 rfl rfl rfl rfl (by assumption) (by first | assumption | rfl) ?_
      refine x_iadd 51 C dX0_origin_50 rfl ?_
      exact x_iret C dX0_origin_51 rfl ⟨vi (by clear hbne; unfold rkOrg rGate; (repeat (first | omega | split))), rfl⟩
    · skip
      refine x_iload_n 43 C dX0_origin_42 rfl rfl ?_
      refine x_goto 50 C dX0_origin_43 (by decide) ?_
      refine x_iadd 51 C dX0_origin_50 rfl ?_
      exact x_iret C dX0_origin_51 rfl ⟨vi (by clear hbne; unfold rkOrg rGate; (repeat (first | omega | split))), rfl⟩
  · skip
    refine x_aload_n 1 C dX0_origin_0 rfl rfl ?_
    refine x_getIv 4 301 C fr_X0_15 dX0_origin_1 rfl rfl rfl rfl (by assumption) (by first | assumption | rfl) ?_
    refine x_iconst 5 C dX0_origin_4 rfl ?_
    refine x_icmp_ne 8 14 C dX0_origin_5 rfl (by decide) (by first | exact hRw _ _ | (split <;> exact ⟨by omega, by omega⟩) | assumption | exact ⟨by omega, by omega⟩ | exact hw.1 _ _ | omega) (by first | exact hRw _ _ | (split <;> exact ⟨by omega, by omega⟩) | assumption | exact ⟨by omega, by omega⟩ | exact hw.1 _ _ | omega) (fun h5 => ?_) (fun h5 => ?_)
    · skip
      refine x_bipush 16 C dX0_origin_14 rfl (by decide) ?_
      exact hJ16 _ (by first | rw [if_pos (by assumption)] | rw [if_neg (by assumption)])
    · skip
      refine x_sipush 11 C dX0_origin_8 rfl (by decide) ?_
      refine x_goto 16 C dX0_origin_11 (by decide) ?_
      exact hJ16 _ (by first | rw [if_pos (by assumption)] | rw [if_neg (by assumption)])
set_option maxHeartbeats 2000000 in
set_option maxRecDepth 100000 in
theorem c_X7_top {E : EV} {l : Launch} {G : GT} {B : Nat → Nat} {R : RT} (hW : rkW G B R) {i : Int} (h0 : 0 ≤ i ∧ i < R 24 0) : MT E l yX7_top cX7_top 2 (some (.object "HopRules$Page")) 0 0 0 0 [.ref (rkAt G (B 3) i)] G (pD (some (.ref (rkAt G (B 3) (rTop R i)))) (G)) := by
  refine mt_of (own := RX7) (L := [some (.ref (rkAt G (B 3) i)), none]) (by decide +kernel) rfl (Nat.le_of_ble_eq_true rfl) (List.forall_mem_cons.mpr ⟨rfl, (fun _ h => absurd h List.not_mem_nil)⟩) rfl ?_
  intro p e s m args below meth c C hin
  refine x_wf (fun hw => ?_)
  obtain ⟨hB, hH, hA, hP, hI⟩ := id hW
  obtain ⟨⟨b0, b6, b7⟩, ⟨bk1, bk2, bk3, bk4, bk5, bk8, bk9⟩, ⟨bp0, bp1, bp2, bp3, bp4, bp5, bp6, bp7, bp8⟩, hbne⟩ := id hB
  obtain ⟨hl1, hh1⟩ := id hH
  obtain ⟨hl2, hh2⟩ := id hA
  obtain ⟨hl3, hh3⟩ := id hP
  obtain ⟨iH, iA, iAd, iHl, iP, iS, hRw, iU⟩ := id hI
  have iH1 := iH.1
  have iA1 := iA.1
  have iA2 := iA.2
  have iP1 := iP.1
  refine x_aload_n 1 C dX7_top_0 rfl rfl ?_
  refine x_astore_n 2 C dX7_top_1 rfl rfl rfl ?_
  refine x_loop (α := Int) (fun k => k.toNat) (fun k => 0 ≤ k ∧ k < R 24 0 ∧ rTop R k = rTop R i) (fun k => G) (fun k => [some (.ref (rkAt G (B 3) i)), some (.ref (rkAt G (B 3) k))]) (fun _ => []) i ⟨h0.1, h0.2, rfl⟩ rfl rfl rfl ?_
  intro aa hI ih
  obtain ⟨k, rfl⟩ := (⟨aa, rfl⟩ : ∃ z, z = aa)
  (try dsimp only at hI); (try dsimp only at ih); (try dsimp only)
  obtain ⟨i1, i2, i3⟩ := hI
  obtain ⟨f1, f2, f3, f4⟩ := hh3 k i1 i2
  have hu := (iP.2 k.toNat (by omega)).2.1
  refine x_aload_n 3 C dX7_top_2 rfl rfl ?_
  refine x_getPv 6 1001 C fr_X7_15 dX7_top_3 rfl rfl rfl rfl (by assumption) (by first | assumption | rfl) ?_
  refine x_ifnull 9 17 C dX7_top_6 rfl (by decide) (fun h6 => ?_) (fun a6 h6 => ?_)
  · skip
    refine x_aload_n 18 C dX7_top_17 rfl rfl ?_
    exact x_aret (r := some _) C dX7_top_18 rfl ⟨by rw [← i3, rTop_stop (rkOp_none h6)]; rfl, rfl⟩
  · skip
    have n6 := rkOp_some h6
    have f3b := f3.trans (rkOp_s (show 0 ≤ R 26 k.toNat by omega))
    refine x_aload_n 10 C dX7_top_9 rfl rfl ?_
    refine x_getO 13 1001 C fr_X7_15 dX7_top_10 rfl rfl rfl rfl (by assumption) (by assumption) ?_
    refine x_astore_n 14 C dX7_top_13 rfl rfl rfl ?_
    refine x_goto 2 C dX7_top_14 (by decide) ?_
    exact ih (R 26 k.toNat) ⟨by omega, by omega, by rw [← i3]; exact (rTop_step iP i1 i2 n6.1).symm⟩ (by (try dsimp only); omega)
