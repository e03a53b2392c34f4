/-! rows laid by program (wip/tools/genp.py) -/
theorem rNeed_x {T0 : RT} {m : Int} (h : (decide (T0 62 0 = 1) && rCross T0 m) = false) : rNeed T0 m = false := by
  unfold rNeed
  rw [← Bool.and_assoc, h]
  rfl
theorem rNeed_0 {T0 : RT} {m : Int} (h : rPfNeeds (rD2 T0 m) = 0) : rNeed T0 m = false := by
  have e : rPfNeeds (rD2 T0 m) = rPfNeeds T0 := rfl
  rw [e] at h
  unfold rPfNeeds at h
  have a : ¬ T0 66 0 = 2 ∧ T0 65 0 = 0 := by
    refine ⟨fun z => ?_, Decidable.byContradiction fun z => ?_⟩
    · rw [if_pos z] at h
      revert h
      split <;> omega
    · rw [if_neg z] at h
      revert h
      split <;> omega
  unfold rNeed
  rw [decide_eq_false a.1, decide_eq_false (show ¬ ¬ T0 65 0 = 0 from fun z => z a.2), Bool.or_false, Bool.and_false, Bool.and_false]
theorem rNeed_1 {T0 : RT} {m : Int} (h0 : (decide (T0 62 0 = 1) && rCross T0 m) = true) (h : ¬ rPfNeeds (rD2 T0 m) = 0) : rNeed T0 m = true := by
  have e : rPfNeeds (rD2 T0 m) = rPfNeeds T0 := rfl
  rw [e] at h
  unfold rPfNeeds at h
  unfold rNeed
  rw [← Bool.and_assoc, h0, Bool.true_and]
  by_cases c : T0 66 0 = 2
  · rw [decide_eq_true c]; rfl
  · by_cases d : T0 65 0 = 0
    · rw [if_neg c, if_pos d] at h
      exact absurd rfl h
    · rw [decide_eq_true (show ¬ T0 65 0 = 0 from d), Bool.or_true]
set_option maxHeartbeats 2000000 in
set_option maxRecDepth 100000 in
theorem c_X11_takeHop {E : EV} {l : Launch} {G : GT} {B : Nat → Nat} {R : RT} (hZ : rkZ G B R) {rq ch : Nat} {L0 : List Nat} {cr a k q n : Int} (hr : rkRq G B rq (R 61 0) (R 62 0) cr (R 65 0) (R 66 0) (R 67 0) (R 68 0)) (h63 : R 63 0 = bI (decide (cr = 2))) (h64 : cr = 2 ∨ R 64 0 = bI (decide (cr = 1))) (hch : gL G ch = L0 ∧ gK G ch = 20 ∧ gP G 1304 rq = some ch ∧ ∀ i, i < 10 → ch ≠ B i) (hL7 : ∀ x ∈ L0, gK G x = 7) (hk : ((L0.length : Int) = k ∧ k ≤ 5) ∧ R 30 (R 28 0).toNat = k ∧ 0 ≤ R 28 0 ∧ R 28 0 ≤ 39) (hq : q = 6 * R 28 0 + k) (hQR : RQ R) (hX : RX R n) (hn : n ≤ 239) (hzz : (R 67 0 = 0 ∨ R 67 0 = 1) ∧ (R 68 0 = 0 ∨ R 68 0 = 1)) (hO : ∀ i, 0 ≤ i → i < R 7 0 → (0 ≤ R 16 i.toNat ∧ R 16 i.toNat ≤ 3) ∧ (0 ≤ R 17 i.toNat ∧ R 17 i.toNat ≤ 1000)) (hT : R 0 0 ≤ 900000000) (h0 : 0 ≤ a ∧ a < R 7 0) : MT E l yX11_takeHop cX11_takeHop 7 (some (.object "HopRules$Address")) 9 242 11 482 [.ref (B 0), .ref rq, .ref (rkAt G (B 2) a)] (G) (fun v G' => rkTo G G' B R rq ch L0 cr a k v) := by
  refine mt_of (own := RX11) (L := [some (.ref (B 0)), some (.ref rq), some (.ref (rkAt G (B 2) a)), none, none, none, none]) (by decide +kernel) rfl (Nat.le_of_ble_eq_true rfl) (List.forall_mem_cons.mpr ⟨rfl, (List.forall_mem_cons.mpr ⟨rfl, (List.forall_mem_cons.mpr ⟨rfl, (fun _ h => absurd h List.not_mem_nil)⟩)⟩)⟩) rfl ?_
  intro p e s m args below meth c C hin
  refine x_wf (fun hw => ?_)
  have hW := hZ.1
  obtain ⟨hB, hH, hA, hP, hI⟩ := id hW
  obtain ⟨⟨b0, b6, b7⟩, ⟨bk1, bk2, bk3, bk4, bk5, bk8, bk9⟩, ⟨bp0, bp1, bp2, bp3, bp4, bp5, bp6, bp7, bp8⟩, -⟩ := id hB
  obtain ⟨hl1, hh1⟩ := id hH
  obtain ⟨hl2, hh2⟩ := id hA
  obtain ⟨hl3, hh3⟩ := id hP
  obtain ⟨iH, iA, iAd, iHl, iP, iS, hRw, iU⟩ := id hI
  have iH1 := iH.1
  have iA1 := iA.1
  have iA2 := iA.2
  have iP1 := iP.1
  obtain ⟨c1, c2, c3, c4⟩ := id hch
  obtain ⟨rk, r0, r1, r2, r3, r5, r6, r7⟩ := id hr
  obtain ⟨q1, q2, q3⟩ := id hQR
  have u1 := (iP.2 (R 61 0).toNat (by omega)).1
  obtain ⟨g1, g2, g3, g4⟩ := hh3 (R 61 0) q1.1 q1.2
  have d1 := (hh2 (R 25 (R 61 0).toNat) u1.1 u1.2).1.1
  obtain ⟨m, hm⟩ : ∃ m, m = rkUm R (R 62 0) a (R 61 0) := ⟨_, rfl⟩
  have hm0 : 0 ≤ m ∧ m < R 7 0 := by (rw [hm]; exact rkUm_in h0)
  have a1 := (hh2 m hm0.1 hm0.2).1.1
  have hpl := rkPl_same iH iAd hm0 u1
  obtain ⟨mx1, mx2⟩ := rkUm_mix iAd iP q1 q2 h0 (fun z => rFind_8 _ z)
  rw [← hm] at mx1 mx2
  have krq : gK G rq ≠ 0 := by omega
  have kch : gK G ch ≠ 0 := by omega
  refine x_aload_n 1 C dX11_takeHop_0 rfl rfl ?_
  refine x_aload_n 2 C dX11_takeHop_1 rfl rfl ?_
  refine x_aload_n 3 C dX11_takeHop_2 rfl rfl ?_
  refine x_callV (As := [_, _]) 6 14 11 482 C vw_X11_267 iw_X11_unmixed sw_X11_unmixed (c_X11_unmixed hW hr q1 h0) dX11_takeHop_3 rfl rfl rfl rfl rfl rfl (by assumption) ⟨Nat.le_of_ble_eq_true rfl, Nat.le_of_ble_eq_true rfl⟩ (Nat.le_of_ble_eq_true rfl) ⟨Nat.le_refl _, Nat.le_refl _⟩ (fun v G' hq => ?_)
  obtain ⟨rfl, hG9⟩ := hq
  replace hG9 := hG9.symm
  subst hG9
  refine x_as rfl rfl rfl ?_
  rw [← hm]
  refine x_astore_n 7 C dX11_takeHop_6 rfl rfl rfl ?_
  refine x_aload_n 8 C dX11_takeHop_7 rfl rfl ?_
  refine x_joinv 37 (fun vJ => vJ = rAfar R m) ?_ (fun hJ37 => ?_)
  · intro vJ hJ
    subst hJ
    refine x_putZ 40 1307 C fw_X11_270 (fun h => by cases h) dX11_takeHop_37 rfl rfl rfl rfl rk (by unfold rAfar; split; exact Or.inr rfl; exact Or.inl rfl) ?_
    refine x_new (kc0 := 10) (ks0 := 470) 43 7 C nwd_X11_282 rfl rfl dX11_takeHop_40 rfl ⟨by omega, by omega⟩ (fun q40 hq40 => ?_)
    obtain ⟨G1, hG1⟩ : ∃ G1 : GT, G1 = nO (sI G 1307 rq (rAfar R m)) q40 7 := ⟨_, rfl⟩
    refine x_as (G' := G1) hG1 rfl rfl ?_
    have hp0 : gK G q40 = 0 := hq40
    have hF1 : rkFr [1307] [] G G1 := by (rw [hG1]; exact fr_nO hp0 (by decide) (fr_sI (by decide) (by decide) fr_rfl))
    have hZ1 : rkZ G1 B R := rkZ_fr hZ hF1 (by decide) (fun x z => by cases z)
    have k1 : gK G1 q40 = 7 := by (rw [hG1]; exact nO_q)
    have el31 : gL G1 (B 3) = gL G (B 3) := hF1.2.2.1 (B 3) (by omega) List.not_mem_nil
    have el21 : gL G1 (B 2) = gL G (B 2) := hF1.2.2.1 (B 2) (by omega) List.not_mem_nil
    have hz1 : (R 67 0 = 0 ∨ R 67 0 = 1) ∧ (rAfar R m = 0 ∨ rAfar R m = 1) := ⟨hzz.1, by (unfold rAfar; split; exact Or.inr rfl; exact Or.inl rfl)⟩
    have hr1 : rkRq G1 B rq (R 61 0) (R 62 0) cr (R 65 0) (R 66 0) (R 67 0) (rAfar R m) := ⟨(hF1.1 rq krq).trans rk, by (rw [(hF1.2.1 1300 rq krq (by decide)).2, rkAt_same el31]; exact r0), ((hF1.2.1 1301 rq krq (by decide)).1).trans r1, ((hF1.2.1 1302 rq krq (by decide)).1).trans r2, ((hF1.2.1 1303 rq krq (by decide)).1).trans r3, ((hF1.2.1 1305 rq krq (by decide)).1).trans r5, ((hF1.2.1 1306 rq krq (by decide)).1).trans r6, by (rw [hG1, nO_I (by decide)]; exact u2_s)⟩
    refine x_dup 44 C dX11_takeHop_43 rfl rfl ?_
    refine x_aload_n 45 C dX11_takeHop_44 rfl rfl ?_
    refine x_aload_n 46 C dX11_takeHop_45 rfl rfl ?_
    refine x_as (st' := [.ref (rkAt G1 (B 2) m), .ref rq, .ref q40, .ref q40]) rfl rfl (by rw [rkAt_same el21 m]; rfl) ?_
    refine x_callI (As := [_, _]) 49 9 460 C vw_X11_284 iw_X4_init rfl (c_X4_init hZ1.1 k1 hr1 q1 hm0 hz1) dX11_takeHop_46 rfl rfl rfl ⟨Nat.le_of_ble_eq_true rfl, Nat.le_of_ble_eq_true rfl⟩ (Nat.le_of_ble_eq_true rfl) ⟨by omega, by omega⟩ (fun v G' hq => ?_)
    obtain ⟨rfl, ar, har, hG9⟩ := hq
    obtain ⟨G2, hG2⟩ : ∃ z, z = G' := ⟨_, rfl⟩
    subst hG2
    refine x_as rfl rfl rfl ?_
    have hne : q40 ≠ ar := fun z => by (rw [← z, k1] at har; cases har)
    have hF2 : rkFr [1307] [] G G2 := by (rw [hG9]; exact fr_sPq hp0 (by decide) (fr_nA (fr_q hF1 har) (fr_sIq hp0 (fr_sIq hp0 (fr_sIq hp0 (fr_sIq hp0 (fr_sIq hp0 (fr_sIq hp0 (fr_sPq hp0 (by decide) hF1)))))))))
    have k2 : gK G2 q40 = 7 := by (rw [hG9]; exact (if_neg hne).trans k1)
    have k2rq : gK G2 rq = 13 := (hF2.1 rq krq).trans rk
    have k2ch : gK G2 ch = 20 := (hF2.1 ch kch).trans c2
    have el2 : gL G2 ch = L0 := (hF2.2.2.1 ch kch List.not_mem_nil).trans c1
    have p2ch : gP G2 1304 rq = some ch := ((hF2.2.1 1304 rq krq (by decide)).2).trans c3
    refine x_astore 51 C dX11_takeHop_49 rfl rfl rfl ?_
    refine x_aload_n 52 C dX11_takeHop_51 rfl rfl ?_
    refine x_getO 55 1304 C fr_X11_287 dX11_takeHop_52 rfl rfl rfl rfl k2rq (by assumption) ?_
    refine x_aload 57 C dX11_takeHop_55 rfl rfl ?_
    refine x_callL (As := [_]) (ci := 2) 60 8 440 C vw_X11_78 iw_Jx4a65c_add_9ea2d sw_Jx4a65c_add_9ea2d (c_add (ms := 20) k2ch (show 3 ≤ gK G2 q40 ∧ gK G2 q40 ≤ 14 by omega) (fun x hx => by (rw [el2] at hx; have h7 := hL7 x hx; rw [hF2.1 x (by omega)]; omega)) (by rw [el2]; omega)) dX11_takeHop_57 rfl rfl rfl rfl rfl (Or.inr (Or.inr ⟨rfl, k2ch⟩)) ⟨Nat.le_of_ble_eq_true rfl, Nat.le_of_ble_eq_true rfl⟩ (Nat.le_of_ble_eq_true rfl) ⟨by omega, by omega⟩ (fun v G' hq => ?_)
    obtain ⟨rfl, hG9⟩ := hq
    replace hG9 := hG9.symm
    subst hG9
    refine x_as rfl rfl rfl ?_
    obtain ⟨G4, hG4⟩ : ∃ G4 : GT, G4 = sL G2 ch (L0 ++ [q40]) := ⟨_, rfl⟩
    refine x_as (G' := G4) (by rw [hG4, el2]) rfl rfl ?_
    obtain ⟨T0, hT0⟩ : ∃ z, z = rRec R m q := ⟨_, rfl⟩
    have hT4 : rkT G G4 B (rD2 T0 m) rq ch q40 ar L0 cr m q := by (rw [hT0]; exact rkT_make hZ hr hch hm0 q3 ⟨by omega, by omega⟩ hp0 har hG1 (by rw [hG4, hG9]))
    have hAR : ∀ f : Nat, f ≠ 30 ∧ f ≠ 31 ∧ f ≠ 32 → T0 f = R f := fun f hf => by (rw [hT0]; exact rRec_out hf)
    have haF : Fs R T0 := fun f h1 h2 => hAR f (by omega)
    have haX : RX T0 n := by (rw [hT0]; exact rRec_X hX)
    have e61 : T0 61 0 = R 61 0 := congrFun (hAR 61 (by decide)) 0
    have e62 : T0 62 0 = R 62 0 := congrFun (hAR 62 (by decide)) 0
    have e67 : T0 67 0 = R 67 0 := congrFun (hAR 67 (by decide)) 0
    have ham : 0 ≤ m ∧ m < T0 7 0 := by (rw [hAR 7 (by decide)]; exact hm0)
    have ha61 : 0 ≤ T0 61 0 ∧ T0 61 0 < T0 24 0 := by (rw [hAR 61 (by decide), hAR 24 (by decide)]; exact q1)
    have ha63 : T0 63 0 = bI (decide (cr = 2)) := by (rw [hAR 63 (by decide)]; exact h63)
    have ha64 : cr = 2 ∨ T0 64 0 = bI (decide (cr = 1)) := by (rw [hAR 64 (by decide)]; exact h64)
    have ha67 : T0 67 0 = 0 ∨ T0 67 0 = 1 := by (rw [e67]; exact hzz.1)
    have haR : ∀ k j, InR (T0 k j) := by (rw [hT0]; exact InR_rec hRw ⟨hm0.1, by omega⟩ q3 ⟨by omega, by omega⟩)
    have ha32 : T0 32 q.toNat = 0 := by (rw [hT0]; exact rRec_32)
    obtain ⟨x1, x2, x3, x4, x5, x6, x7, x8, x9⟩ := id haX
    have ha0 : 0 ≤ T0 0 0 ∧ T0 0 0 ≤ 900000000 := ⟨x4.1, by (rw [hAR 0 (by decide)]; exact hT)⟩
    have hww0 := rWhere_in (haF.H iH) (haF.Ad iAd) (haF.P iP) ha61 ham
    have hww : -1 ≤ rWhere T0 m ∧ rWhere T0 m ≤ 31 := ⟨by omega, hww0.2⟩
    have hF2q : Fq T0 (rD2 T0 m) := rD2_Fq
    have hb61 : 0 ≤ rD2 T0 m 61 0 ∧ rD2 T0 m 61 0 < rD2 T0 m 24 0 := ha61
    have hbm : 0 ≤ m ∧ m < rD2 T0 m 7 0 := ham
    have eMx : rkMx (rD2 T0 m) (rD2 T0 m 62 0) m (rD2 T0 m 61 0) = rkMx R (R 62 0) m (R 61 0) := (rkMx_F hF2q.Fs rfl rfl).trans (rkMx_F haF e61 e62)
    have eCr : rkCr (rD2 T0 m) (rD2 T0 m 67 0) m (rD2 T0 m 61 0) = rCross T0 m := rkCr_x.trans (rCross_F hF2q.Fs rfl rfl)
    have hv4 : rkHv G4 B q40 m (rD2 T0 m 66 0) (rD2 T0 m 67 0) (rD2 T0 m 68 0) (bI (decide (rD2 T0 m 62 0 = 2))) (rkPm (rWhere T0 m)) := by (have hv := hT4.2.2.2.1; rw [Fs_where (m := m) hF2q.Fs rfl rfl] at hv; exact hv)
    have el24 : gL G4 (B 2) = gL G (B 2) := by (rw [hG4, sL_n (fun z => c4 2 (by decide) z.symm)]; exact hF2.2.2.1 (B 2) (by omega) List.not_mem_nil)
    have b04 := hT4.1.1.1.1.1
    have k4rq := hT4.2.2.1.1
    have r14 : gI G4 1301 rq = T0 62 0 := hT4.2.2.1.2.2.1
    refine x_pop 61 C dX11_takeHop_60 rfl rfl ?_
    refine x_aload_n 62 C dX11_takeHop_61 rfl rfl ?_
    refine x_aload_n 63 C dX11_takeHop_62 rfl rfl ?_
    refine x_as (st' := [.ref (rkAt G4 (B 2) m), .ref rq]) rfl rfl (by rw [rkAt_same el24 m]; rfl) ?_
    refine x_callS (As := [_, _]) 66 8 440 C vw_X11_290 tw_X11_isMixed (c_X11_isMixed hT4.1.1 hT4.2.2.1 hb61 hbm) dX11_takeHop_63 rfl rfl rfl ⟨Nat.le_of_ble_eq_true rfl, Nat.le_of_ble_eq_true rfl⟩ (Nat.le_of_ble_eq_true rfl) ⟨Nat.le_refl _, Nat.le_refl _⟩ (fun v G' hq => ?_)
    obtain ⟨rfl, hG9⟩ := hq
    replace hG9 := hG9.symm
    subst hG9
    refine x_as rfl rfl rfl ?_
    rw [eMx]
    refine x_if_eqB 69 71 C dX11_takeHop_66 rfl (by decide) (fun h66 => ?_) (fun h66 => ?_)
    · skip
      have hmx := mx2 h66
      obtain ⟨eg1, eg2⟩ := rG_eq hq hT0 hmx
      refine x_joinv 93 (fun vJ => vJ = bI (decide (T0 62 0 = 1) && rCross T0 m)) ?_ (fun hJ93 => ?_)
      · intro vJ hJ
        subst hJ
        refine x_istore 95 C dX11_takeHop_93 rfl rfl rfl ?_
        obtain ⟨X, hXX⟩ : ∃ X : Bool, X = (decide (T0 62 0 = 1) && rCross T0 m) := ⟨_, rfl⟩
        rw [← hXX]
        refine x_aload 97 C dX11_takeHop_95 rfl rfl ?_
        refine x_joinK (kc1 := 4) (ks1 := 50) (α := GT) 117 (fun G5 => rkT G G5 B (rD3 T0 m) rq ch q40 ar L0 cr m q) (fun G5 => G5) (fun G5 => [some (.ref (B 0)), some (.ref rq), some (.ref (rkAt G (B 2) a)), some (.ref (rkAt G (B 2) m)), some (.ref q40), some (.int (i32 (bI X))), none]) (fun G5 => [.int (i32 (bI (rStops T0 m))), .ref q40]) ?_ (fun hJ117 => ?_)
        · intro aa hJ
          obtain ⟨G5, rfl⟩ := (⟨aa, rfl⟩ : ∃ z, z = aa)
          (try dsimp only at hJ); (try dsimp only)
          refine x_putZ 120 709 C fw_X11_304 (fun h => by cases h) dX11_takeHop_117 rfl rfl rfl rfl hJ.2.2.2.1.1 (bI_01 _) ?_
          obtain ⟨G6, hG6⟩ : ∃ G6 : GT, G6 = sI G5 709 q40 (bI (rStops T0 m)) := ⟨_, rfl⟩
          refine x_as (G' := G6) hG6 rfl rfl ?_
          have hT6 : rkT G G6 B (rD3 T0 m) rq ch q40 ar L0 cr m q := by (rw [hG6]; exact rkT_mark hJ (Or.inl rfl))
          have n709 : gI G6 709 q40 = bI (rStops T0 m) := by (rw [hG6]; exact u2_s)
          have k76 := hT6.2.2.2.1.1
          have hF3 : Fq T0 (rD3 T0 m) := rD3_Fq
          obtain ⟨i1, i2, i3, i4, i5, i6⟩ := rD3_I (R := T0) (a := m) x2 x4.1
          have hc61 : 0 ≤ rD3 T0 m 61 0 ∧ rD3 T0 m 61 0 < rD3 T0 m 24 0 := by (rw [hF3 61 (by decide) (by decide) (by decide) (by decide), hF3 24 (by decide) (by decide) (by decide) (by decide)]; exact ha61)
          have hcm : 0 ≤ m ∧ m < rD3 T0 m 7 0 := by (rw [hF3 7 (by decide) (by decide) (by decide) (by decide)]; exact ham)
          have hc0 : rD3 T0 m 0 0 = T0 0 0 := congrFun (hF3 0 (by decide) (by decide) (by decide) (by decide)) 0
          have eU : rkUse (rD3 T0 m) cr (rD3 T0 m 67 0) m (rD3 T0 m 61 0) = rUsed T0 m := rUsed_x hF3 ha63 ha64
          have hwc : rWhere (rD3 T0 m) m = rWhere T0 m := Fs_where hF3.Fs (congrFun (hF3 61 (by decide) (by decide) (by decide) (by decide)) 0) (congrFun (hF3 62 (by decide) (by decide) (by decide) (by decide)) 0)
          have p705 : gI G6 705 q40 = rkPm (rWhere T0 m) := hT6.2.2.2.1.2.2.2.2.2.2.trans (by rw [hwc])
          have p700 := hT6.2.2.2.1.2.1
          have b06 := hT6.1.1.1.1.1
          have np76 := hT6.1.1.1.2.2.1.2.2.2.2.2.2.1
          have n086 := hT6.1.2.2.2.2.2.2.1
          refine x_aload 122 C dX11_takeHop_120 rfl rfl ?_
          refine x_getIv 125 709 C fr_X11_304 dX11_takeHop_122 rfl rfl rfl rfl k76 n709 ?_
          refine x_if_eqB 128 130 C dX11_takeHop_125 rfl (by decide) (fun h125 => ?_) (fun h125 => ?_)
          · skip
            refine x_aload_n 131 C dX11_takeHop_130 rfl rfl ?_
            refine x_aload 133 C dX11_takeHop_131 rfl rfl ?_
            refine x_callS (As := [_, _]) 136 4 50 C vw_X11_307 tw_X11_usesCredentials (c_X11_usesCredentials hT6.1.1 hT6.2.2.1 hc61 hT6.2.2.2.1 hcm) dX11_takeHop_133 rfl rfl rfl ⟨Nat.le_of_ble_eq_true rfl, Nat.le_of_ble_eq_true rfl⟩ (Nat.le_of_ble_eq_true rfl) ⟨Nat.le_refl _, Nat.le_refl _⟩ (fun v G' hq => ?_)
            obtain ⟨rfl, hG9⟩ := hq
            replace hG9 := hG9.symm
            subst hG9
            refine x_as rfl rfl rfl ?_
            rw [eU]
            refine x_istore 138 C dX11_takeHop_136 rfl rfl rfl ?_
            refine x_aload_n 139 C dX11_takeHop_138 rfl rfl ?_
            refine x_getO 142 1406 C fr_X11_38 dX11_takeHop_139 rfl rfl rfl rfl b06 (by assumption) ?_
            refine x_aload 144 C dX11_takeHop_142 rfl rfl ?_
            refine x_getO 147 700 C fr_X11_310 dX11_takeHop_144 rfl rfl rfl rfl k76 (by assumption) ?_
            refine x_iload 149 C dX11_takeHop_147 rfl rfl ?_
            refine x_aload 151 C dX11_takeHop_149 rfl rfl ?_
            refine x_getIv 154 705 C fr_X11_311 dX11_takeHop_151 rfl rfl rfl rfl k76 p705 ?_
            refine x_aload_n 155 C dX11_takeHop_154 rfl rfl ?_
            refine x_getIv 158 1408 C fr_X11_255 dX11_takeHop_155 rfl rfl rfl rfl b06 n086 ?_
            refine x_callV (As := [_, _, _, _]) 161 11 2 26 C vw_X11_314 iw_X8_use sw_X8_use (c_X8_use hT6.1.1 hT6.1.2.2.2.1 hcm (bI_01 _) hww (by omega) (by rw [hc0]; omega)) dX11_takeHop_158 rfl rfl rfl rfl rfl rfl hT6.1.1.1.1.2.2 ⟨Nat.le_of_ble_eq_true rfl, Nat.le_of_ble_eq_true rfl⟩ (Nat.le_of_ble_eq_true rfl) ⟨by omega, by omega⟩ (fun v G' hq => ?_)
            obtain ⟨rfl, hf7, hQ7⟩ := hq
            obtain ⟨G7, hG7⟩ : ∃ z, z = G' := ⟨_, rfl⟩
            subst hG7
            refine x_as rfl rfl rfl ?_
            have hT7 : rkT G G7 B (rD4 T0 m) rq ch q40 ar L0 cr m q := rkT_use hT6 ham ha61 haX hn hf7 hQ7
            have n7097 : gI G7 709 q40 = 0 := ((hf7.2.1 709 q40 (by rw [hT6.2.2.2.1.1]; decide) (by decide)).1).trans (n709.trans (by rw [h125]; rfl))
            have b07 := hT7.1.1.1.1.1
            have b67 := hT7.1.1.1.1.2.1
            have np67 := hT7.1.1.1.2.2.1.2.2.2.2.2.1
            have n077 := hT7.1.2.2.2.2.2.1
            have n087 := hT7.1.2.2.2.2.2.2.1
            have k77 := hT7.2.2.2.1.1
            refine x_joinK (kc1 := 0) (ks1 := 0) (α := GT) 196 (fun G9 => rkT G G9 B (rD5 T0 m q) rq ch q40 ar L0 cr m q ∧ gI G9 709 q40 = 0) (fun G9 => G9) (fun G9 => [some (.ref (B 0)), some (.ref rq), some (.ref (rkAt G (B 2) a)), some (.ref (rkAt G (B 2) m)), some (.ref q40), some (.int (i32 (bI X))), some (.int (i32 (bI (rUsed T0 m))))]) (fun G9 => []) ?_ (fun hJ196 => ?_)
            · intro aa hJ
              obtain ⟨G9, rfl⟩ := (⟨aa, rfl⟩ : ∃ z, z = aa)
              (try dsimp only at hJ); (try dsimp only)
              have hD5 := rD5_o haX (haF.H iH) (haF.A iA) (haF.Ad iAd) (haF.S iS) ham ha32
              have he61 : 0 ≤ rD5 T0 m q 61 0 ∧ rD5 T0 m q 61 0 < rD5 T0 m q 24 0 := by (rw [hD5.1 61 (by decide) (by decide) (by decide) (by decide), hD5.1 24 (by decide) (by decide) (by decide) (by decide)]; exact ha61)
              have hem : 0 ≤ m ∧ m < rD5 T0 m q 7 0 := by (rw [hD5.1 7 (by decide) (by decide) (by decide) (by decide)]; exact ham)
              have he67 : rD5 T0 m q 67 0 = 0 ∨ rD5 T0 m q 67 0 = 1 := by (rw [hD5.1 67 (by decide) (by decide) (by decide) (by decide)]; exact ha67)
              have eLt : rkLt (rD5 T0 m q) cr (rD5 T0 m q 67 0) m (rD5 T0 m q 61 0) = rLets T0 m := (rkLt_r hJ.1.1.1.2.2.2.2.1 hJ.1.1.1.2.2.2.2.2.2.1 hJ.1.1.1.2.2.2.2.2.2.2.2.1 he61 hem (by rw [hD5.1 63 (by decide) (by decide) (by decide) (by decide)]; exact ha63)).trans hD5.1.lets
              refine x_aload 198 C dX11_takeHop_196 rfl rfl ?_
              refine x_joinv 217 (fun vJ => vJ = bI (!(X && !rLets T0 m))) ?_ (fun hJ217 => ?_)
              · intro vJ hJ
                subst hJ
                refine x_putZ 220 710 C fw_X11_329 (fun h => by cases h) dX11_takeHop_217 rfl rfl rfl rfl hJ.1.2.2.2.1.1 (bI_01 _) ?_
                obtain ⟨G10, hG10⟩ : ∃ G10 : GT, G10 = sI G9 710 q40 (bI (!(X && !rLets T0 m))) := ⟨_, rfl⟩
                refine x_as (G' := G10) hG10 rfl rfl ?_
                have hT10 : rkT G G10 B (rD5 T0 m q) rq ch q40 ar L0 cr m q := by (rw [hG10]; exact rkT_mark hJ.1 (Or.inr rfl))
                have n710 : gI G10 710 q40 = bI (!(X && !rLets T0 m)) := by (rw [hG10]; exact u2_s)
                have k710 := hT10.2.2.2.1.1
                have n7091 : gI G10 709 q40 = 0 := by (rw [hG10]; exact (show u2 (gI G9) 710 q40 (bI (!(X && !rLets T0 m))) 709 q40 = gI G9 709 q40 from u2_k (by decide)).trans hJ.2)
                refine x_aload 222 C dX11_takeHop_220 rfl rfl ?_
                refine x_getIv 225 710 C fr_X11_329 dX11_takeHop_222 rfl rfl rfl rfl k710 n710 ?_
                refine x_if_eqB 228 237 C dX11_takeHop_225 rfl (by decide) (fun h225 => ?_) (fun h225 => ?_)
                · skip
                  refine x_null 238 C dX11_takeHop_237 rfl ?_
                  exact x_aret C dX11_takeHop_238 rfl ⟨q40, m, 3, rD5 T0 m q, rfl, by (rw [← hq]; exact rkT_end hT10 hem hD5.2 (by rw [hD5.1 67 (by decide) (by decide) (by decide) (by decide)]; exact e67)), hp0, hm0, Or.inr ⟨hmx, by (rw [eg1]; exact (rDoes_3 h125 (hXX.symm.trans (rkX_f h225).1) (rkX_f h225).2).symm), by (rw [eg2]; exact (rDoesR_n h125).symm), h66, Or.inr (Or.inl ⟨n7091, by (rw [n710, h225]; rfl), rfl⟩)⟩⟩
                · skip
                  refine x_aload_n 229 C dX11_takeHop_228 rfl rfl ?_
                  refine x_aload 231 C dX11_takeHop_229 rfl rfl ?_
                  refine x_callS (As := [_, _]) 234 0 0 C vw_X11_332 tw_X11_follow (c_X11_follow hT10.1.1 hT10.2.2.1 he61 hT10.2.2.2.1 hem) dX11_takeHop_231 rfl rfl rfl ⟨Nat.le_of_ble_eq_true rfl, Nat.le_of_ble_eq_true rfl⟩ (Nat.le_of_ble_eq_true rfl) ⟨Nat.le_refl _, Nat.le_refl _⟩ (fun v G' hq => ?_)
                  obtain ⟨rfl, hfo⟩ := hq
                  obtain ⟨G11, hG11⟩ : ∃ z, z = G' := ⟨_, rfl⟩
                  subst hG11
                  refine x_as rfl rfl rfl ?_
                  have ed := rDoes_n h125 (by rw [← hXX]; exact h225)
                  rcases hfo with ⟨w1, w2⟩ | ⟨w1, w2⟩
                  · rw [show rkOp G10 (B 2) (rD5 T0 m q 12 m.toNat) = none from by rw [w1]; exact rkOp_n]
                    refine x_goto 238 C dX11_takeHop_234 (by decide) ?_
                    have w3 : T0 12 m.toNat = -1 := by rw [← hD5.1 12 (by decide) (by decide) (by decide) (by decide)]; exact w1
                    rw [w2]
                    exact x_aret C dX11_takeHop_238 rfl ⟨q40, m, (if T0 62 0 = 0 ∧ ¬ rWas T0 m = 0 then 1 else 0), rD5 T0 m q, by rw [if_neg (by split <;> decide)], by (rw [← hq]; exact rkT_end hT10 hem hD5.2 (by rw [hD5.1 67 (by decide) (by decide) (by decide) (by decide)]; exact e67)), hp0, hm0, Or.inr ⟨hmx, by rw [eg1, ed, if_pos w3], by (rw [eg2]; exact (rDoesR_n h125).symm), h66, Or.inr (Or.inr (Or.inl ⟨n7091, by (rw [n710, h225]; rfl), hT10.2.2.2.2.1.2.2.2, by rw [eg1, e62]⟩))⟩⟩
                  · rw [show rkOp G10 (B 2) (rD5 T0 m q 12 m.toNat) = some (rkAt G10 (B 2) (rD5 T0 m q 12 m.toNat)) from if_neg w1]
                    refine x_goto 238 C dX11_takeHop_234 (by decide) ?_
                    have w3 : ¬ T0 12 m.toNat = -1 := by rw [← hD5.1 12 (by decide) (by decide) (by decide) (by decide)]; exact w1
                    have el11 : gL G11 (B 2) = gL G10 (B 2) := by rw [w2]; unfold rkFw; split <;> split <;> rfl
                    obtain ⟨y1, y2, y3, y4, y5⟩ := rkT_follow (R := R) hT10 hem hD5.2 (by rw [hD5.1 67 (by decide) (by decide) (by decide) (by decide)]; exact e67) he67 (by rw [hD5.1 66 (by decide) (by decide) (by decide) (by decide), hAR 66 (by decide)]; omega) (by rw [hD5.1 13 (by decide) (by decide) (by decide) (by decide), hAR 13 (by decide)]; exact ((iAd m.toNat (by omega)).2.2.2.2.2.1).1) w2
                    exact x_aret (r := some _) C dX11_takeHop_238 rfl ⟨q40, m, -1, rD5 T0 m q, by rw [if_pos rfl, rkAt_same el11], by (rw [← hq]; exact y1), hp0, hm0, Or.inr ⟨hmx, by rw [eg1, ed, if_neg w3], by (rw [eg2]; exact (rDoesR_n h125).symm), h66, Or.inr (Or.inr (Or.inr ⟨y3.trans n7091, y4.trans (by (rw [n710, h225]; rfl)), y5, rfl, y2⟩))⟩⟩
              · skip
                refine x_iload 200 C dX11_takeHop_198 rfl rfl ?_
                refine x_if_eqB 203 212 C dX11_takeHop_200 rfl (by decide) (fun h200 => ?_) (fun h200 => ?_)
                · skip
                  refine x_iconst 213 C dX11_takeHop_212 rfl ?_
                  refine x_goto 217 C dX11_takeHop_213 (by decide) ?_
                  exact hJ217 _ (by first | (rw [h200]; rfl) | (rw [h200, h209]; rfl))
                · skip
                  refine x_aload_n 204 C dX11_takeHop_203 rfl rfl ?_
                  refine x_aload 206 C dX11_takeHop_204 rfl rfl ?_
                  refine x_callS (As := [_, _]) 209 0 0 C vw_X11_326 tw_X11_isLetByAnswer (c_X11_isLetByAnswer hJ.1.1.1 hJ.1.2.2.1 he61 hJ.1.2.2.2.1 hem he67) dX11_takeHop_206 rfl rfl rfl ⟨Nat.le_of_ble_eq_true rfl, Nat.le_of_ble_eq_true rfl⟩ (Nat.le_of_ble_eq_true rfl) ⟨Nat.le_refl _, Nat.le_refl _⟩ (fun v G' hq => ?_)
                  obtain ⟨rfl, hG9⟩ := hq
                  replace hG9 := hG9.symm
                  subst hG9
                  refine x_as rfl rfl rfl ?_
                  rw [eLt]
                  refine x_if_eqB 212 216 C dX11_takeHop_209 rfl (by decide) (fun h209 => ?_) (fun h209 => ?_)
                  · skip
                    refine x_iconst 217 C dX11_takeHop_216 rfl ?_
                    exact hJ217 _ (by first | (rw [h200]; rfl) | (rw [h200, h209]; rfl))
                  · skip
                    refine x_iconst 213 C dX11_takeHop_212 rfl ?_
                    refine x_goto 217 C dX11_takeHop_213 (by decide) ?_
                    exact hJ217 _ (by first | (rw [h200]; rfl) | (rw [h200, h209]; rfl))
            · skip
              refine x_iload 163 C dX11_takeHop_161 rfl rfl ?_
              refine x_if_eqB 166 196 C dX11_takeHop_163 rfl (by decide) (fun h163 => ?_) (fun h163 => ?_)
              · skip
                exact x_weak (by omega) (by omega) (hJ196 G7 ⟨by (rw [show rD5 T0 m q = rD4 T0 m from if_neg (by rw [h163]; decide)]; exact hT7), n7097⟩)
              · skip
                have hwd : rWhere (rD4 T0 m) m = rWhere T0 m := Fs_where rD4_Fq.Fs (congrFun (rD4_Fq 61 (by decide) (by decide) (by decide) (by decide)) 0) (congrFun (rD4_Fq 62 (by decide) (by decide) (by decide) (by decide)) 0)
                have hv7 : rkHv G7 B q40 m (rD4 T0 m 66 0) (rD4 T0 m 67 0) (rD4 T0 m 68 0) (bI (decide (rD4 T0 m 62 0 = 2))) (rkPm (rWhere T0 m)) := by (have hv := hT7.2.2.2.1; rw [hwd] at hv; exact hv)
                have hdm : 0 ≤ m ∧ m < rD4 T0 m 7 0 := by (rw [rD4_Fq 7 (by decide) (by decide) (by decide) (by decide)]; exact ham)
                have hd32 : rD4 T0 m 32 q.toNat = 0 := by (rw [rD4_x haX (by decide) (by decide) (by decide) (by decide)]; exact ha32)
                have hd34a : 0 ≤ rD4 T0 m 34 0 := by (rw [rD4_x haX (by decide) (by decide) (by decide) (by decide)]; exact x1.1.1)
                have hd34 : rD4 T0 m 34 0 ≤ 10 := by (rw [rD4_x haX (by decide) (by decide) (by decide) (by decide)]; exact x3)
                have hd0 : rD4 T0 m 0 0 = T0 0 0 := congrFun (rD4_Fq 0 (by decide) (by decide) (by decide) (by decide)) 0
                have hd1b : 0 ≤ rD4 T0 m 1 0 ∧ rD4 T0 m 1 0 ≤ 800000 := by (have := (rD4_I (a := m) haX).2.2.1; omega)
                have hd1 : 0 ≤ rD4 T0 m 1 0 ∧ rD4 T0 m 1 0 ≤ 900000 := ⟨hd1b.1, by omega⟩
                have hq9 : 0 ≤ q ∧ q < 240 := by omega
                refine x_aload_n 167 C dX11_takeHop_166 rfl rfl ?_
                refine x_getO 170 1405 C fr_X11_31 dX11_takeHop_167 rfl rfl rfl rfl b07 (by assumption) ?_
                refine x_aload 172 C dX11_takeHop_170 rfl rfl ?_
                refine x_aload_n 173 C dX11_takeHop_172 rfl rfl ?_
                refine x_getIv 176 1407 C fr_X11_215 dX11_takeHop_173 rfl rfl rfl rfl b07 n077 ?_
                refine x_callV (As := [_, _]) 179 9 2 26 C vw_X11_318 iw_X6_send sw_X6_send (c_X6_send hT7.1.1 hT7.1.2.1 hT7.1.2.2.1 rfl hv7 hT7.2.2.2.2.1.1 hdm hww hq9 hd32 hd34 hd1) dX11_takeHop_176 rfl rfl rfl rfl rfl rfl b67 ⟨Nat.le_of_ble_eq_true rfl, Nat.le_of_ble_eq_true rfl⟩ (Nat.le_of_ble_eq_true rfl) ⟨Nat.le_refl _, Nat.le_refl _⟩ (fun v G' hq => ?_)
                obtain ⟨rfl, hf8, hC8, hsn8, hJ8, hso8⟩ := hq
                obtain ⟨G8, hG8⟩ : ∃ z, z = G' := ⟨_, rfl⟩
                subst hG8
                refine x_as rfl rfl rfl ?_
                have hT8 := rkT_sent hT7 haX hn ha32 hf8 hC8 hsn8 hJ8 hso8
                have n7098 : gI G8 709 q40 = 0 := ((hf8.2.1 709 q40 (by rw [k77]; decide) (by decide)).1).trans n7097
                have b08 := hT8.1.1.1.1.1
                have b68 := hT8.1.1.1.1.2.1
                have np68 := hT8.1.1.1.2.2.1.2.2.2.2.2.1
                have n078 := hT8.1.2.2.2.2.2.1
                have n088 := hT8.1.2.2.2.2.2.2.1
                have k78 := hT8.2.2.2.1.1
                have hs8 := rSends_I (R := rD4 T0 m) (a := m) (w := rWhere T0 m) (q := q) hd32 hd1.1 hd34a
                have hsr : ∀ f : Nat, f ≠ 1 → f ≠ 32 → f ≠ 33 → f ≠ 43 → rSends (rD4 T0 m) m (rWhere T0 m) q f = rD4 T0 m f := hs8.1
                have hv8 : rkHv G8 B q40 m (rSends (rD4 T0 m) m (rWhere T0 m) q 66 0) (rSends (rD4 T0 m) m (rWhere T0 m) q 67 0) (rSends (rD4 T0 m) m (rWhere T0 m) q 68 0) (bI (decide (rSends (rD4 T0 m) m (rWhere T0 m) q 62 0 = 2))) (rkPm (rWhere T0 m)) := by (have hv := hT8.2.2.2.1; rw [Fs_where (m := m) (show Fs (rD4 T0 m) _ from hs8.Fs) (congrFun (hsr 61 (by decide) (by decide) (by decide) (by decide)) 0) (congrFun (hsr 62 (by decide) (by decide) (by decide) (by decide)) 0), hwd] at hv; exact hv)
                refine x_aload_n 180 C dX11_takeHop_179 rfl rfl ?_
                refine x_getO 183 1405 C fr_X11_31 dX11_takeHop_180 rfl rfl rfl rfl b08 (by assumption) ?_
                refine x_aload 185 C dX11_takeHop_183 rfl rfl ?_
                refine x_aload_n 186 C dX11_takeHop_185 rfl rfl ?_
                refine x_getIv 189 1407 C fr_X11_215 dX11_takeHop_186 rfl rfl rfl rfl b08 n078 ?_
                refine x_aload_n 190 C dX11_takeHop_189 rfl rfl ?_
                refine x_getIv 193 1408 C fr_X11_255 dX11_takeHop_190 rfl rfl rfl rfl b08 n088 ?_
                refine x_callV (As := [_, _, _]) 196 9 0 0 C vw_X11_322 iw_X6_take sw_X6_take (c_X6_take hT8.1.1 hT8.1.2.1 hT8.1.2.2.1 rfl hv8 (by rw [hsr 7 (by decide) (by decide) (by decide) (by decide)]; exact hdm) hww (by rw [hsr 34 (by decide) (by decide) (by decide) (by decide)]; exact hd34) (by have y := hs8.2.2; have y2 := hd1b.2; exact ⟨y.1, by omega⟩) (by rw [hsr 0 (by decide) (by decide) (by decide) (by decide), hd0]; omega)) dX11_takeHop_193 rfl rfl rfl rfl rfl rfl b68 ⟨Nat.le_of_ble_eq_true rfl, Nat.le_of_ble_eq_true rfl⟩ (Nat.le_of_ble_eq_true rfl) ⟨by omega, by omega⟩ (fun v G' hq => ?_)
                obtain ⟨rfl, hf9, hC9, hJ9, -⟩ := hq
                obtain ⟨G9, hG9⟩ : ∃ z, z = G' := ⟨_, rfl⟩
                subst hG9
                refine x_as rfl rfl rfl ?_
                have hT9 := rkT_took hT8 (by rw [hsr 7 (by decide) (by decide) (by decide) (by decide)]; exact hdm) (by rw [hsr 34 (by decide) (by decide) (by decide) (by decide)]; exact hd34) hf9 hC9 hJ9
                have n7099 : gI G9 709 q40 = 0 := ((hf9.2.1 709 q40 (by rw [k78]; decide) (by decide)).1).trans n7098
                exact hJ196 G9 ⟨by (rw [show rD5 T0 m q = _ from if_pos h163]; exact hT9), n7099⟩
          · skip
            refine x_null 129 C dX11_takeHop_128 rfl ?_
            exact x_aret C dX11_takeHop_129 rfl ⟨q40, m, 5, rD3 T0 m, rfl, by (rw [← hq]; exact rkT_end hT6 hcm (by rw [i1 32 (by decide) (by decide) (by decide) (by decide)]; omega) (by rw [hF3 67 (by decide) (by decide) (by decide) (by decide)]; exact e67)), hp0, hm0, Or.inr ⟨hmx, by (rw [eg1]; exact (rDoes_5 h125).symm), by (rw [eg2]; exact (rDoesR_5 h125).symm), h66, Or.inl ⟨by (rw [n709, h125]; rfl), rfl⟩⟩⟩
        · skip
          refine x_iload 99 C dX11_takeHop_97 rfl rfl ?_
          refine x_if_eqB 102 116 C dX11_takeHop_99 rfl (by decide) (fun h99 => ?_) (fun h99 => ?_)
          · skip
            refine x_iconst 117 C dX11_takeHop_116 rfl ?_
            have hnd : rNeed T0 m = false := rNeed_x (hXX.symm.trans h99)
            have hst : rStops T0 m = false := by (unfold rStops; rw [hnd]; rfl)
            exact x_weak (by omega) (by omega) (x_as rfl rfl (by rw [hst] <;> rfl) (hJ117 G4 (by rw [show rD3 T0 m = rD2 T0 m from if_neg (by rw [hnd]; decide)]; exact hT4)))
          · skip
            have h99b := hXX.symm.trans h99
            refine x_aload_n 103 C dX11_takeHop_102 rfl rfl ?_
            refine x_aload_n 104 C dX11_takeHop_103 rfl rfl ?_
            refine x_aload 106 C dX11_takeHop_104 rfl rfl ?_
            refine x_callV (As := [_, _]) 109 14 4 50 C vw_X11_301 iw_X11_passesPreflight sw_X11_passesPreflight (c_X11_passesPreflight hT4.1.1 hT4.2.2.1 hv4 hb61 hbm hww (by rw [rkD2_f (by decide) (by decide)]; exact ha63) (by rw [rkD2_f (by decide) (by decide)]; exact ha67) hT4.1.2.2.2.1 hT4.1.2.2.2.2.1 (by rw [rkD2_f (by decide) (by decide), rkD2_f (by decide) (by decide), hAR 16 (by decide), hAR 17 (by decide)]; exact hO m hm0.1 hm0.2) hT4.1.2.2.2.2.2.2.1 (by rw [rkD2_f (by decide) (by decide)]; exact ha0) hT4.1.2.2.2.2.2.2.2 (by rw [rkD2_f (by decide) (by decide)]; omega) (by rw [rkD2_f (by decide) (by decide)]; omega)) dX11_takeHop_106 rfl rfl rfl rfl rfl rfl b04 ⟨Nat.le_of_ble_eq_true rfl, Nat.le_of_ble_eq_true rfl⟩ (Nat.le_of_ble_eq_true rfl) ⟨by omega, by omega⟩ (fun v G' hq => ?_)
            obtain ⟨G5, hG5⟩ : ∃ z, z = G' := ⟨_, rfl⟩
            subst hG5
            obtain ⟨bP, rfl, hT5, hbP⟩ : ∃ bP : Bool, v = some (.int (i32 (bI bP))) ∧ rkT G G5 B (rD3 T0 m) rq ch q40 ar L0 cr m q ∧ rStops T0 m = !bP := by
              rcases hq with ⟨w0, w1, w2⟩ | ⟨w0, w1, w2, w3, w4, w5⟩
              · subst w2
                have hnd := rNeed_0 w0
                refine ⟨true, w1, ?_, by unfold rStops; rw [hnd]; rfl⟩
                rw [show rD3 T0 m = rD2 T0 m from if_neg (by rw [hnd]; decide)]
                exact hT4
              · have hnd := rNeed_1 h99b w0
                refine ⟨_, w1, rkT_pf hT4 ham ha61 haX hn (by rw [hAR 17 (by decide)]; exact (hO m hm0.1 hm0.2).2) hnd w2 w3 w4 w5, by unfold rStops; rw [hnd]; rfl⟩
            refine x_as rfl rfl rfl ?_
            refine x_if_neB 112 116 C dX11_takeHop_109 rfl (by decide) (fun h109 => ?_) (fun h109 => ?_)
            · skip
              refine x_iconst 117 C dX11_takeHop_116 rfl ?_
              exact x_weak (by omega) (by omega) (x_as rfl rfl (by rw [hbP, h109] <;> rfl) (hJ117 G5 hT5))
            · skip
              refine x_iconst 113 C dX11_takeHop_112 rfl ?_
              refine x_goto 117 C dX11_takeHop_113 (by decide) ?_
              exact x_weak (by omega) (by omega) (x_as rfl rfl (by rw [hbP, h109] <;> rfl) (hJ117 G5 hT5))
      · skip
        refine x_aload_n 72 C dX11_takeHop_71 rfl rfl ?_
        refine x_getIv 75 1301 C fr_X11_294 dX11_takeHop_72 rfl rfl rfl rfl k4rq r14 ?_
        refine x_iconst 76 C dX11_takeHop_75 rfl ?_
        refine x_icmp_ne 79 92 C dX11_takeHop_76 rfl (by decide) (by first | exact hRw _ _ | assumption | exact ⟨by omega, by omega⟩ | exact hw.1 _ _ | omega) (by first | exact hRw _ _ | assumption | exact ⟨by omega, by omega⟩ | exact hw.1 _ _ | omega) (fun h76 => ?_) (fun h76 => ?_)
        · skip
          refine x_iconst 93 C dX11_takeHop_92 rfl ?_
          exact hJ93 _ (by first | (rw [decide_eq_false (show ¬ T0 62 0 = 1 by omega)]; rfl) | (rw [h85, Bool.and_false]; rfl) | (rw [decide_eq_true (show T0 62 0 = 1 by omega), h85]; rfl))
        · skip
          refine x_aload_n 80 C dX11_takeHop_79 rfl rfl ?_
          refine x_aload 82 C dX11_takeHop_80 rfl rfl ?_
          refine x_callS (As := [_, _]) 85 8 440 C vw_X11_297 tw_X11_isCross (c_X11_isCross hT4.1.1 hT4.2.2.1 hb61 hT4.2.2.2.1 hbm) dX11_takeHop_82 rfl rfl rfl ⟨Nat.le_of_ble_eq_true rfl, Nat.le_of_ble_eq_true rfl⟩ (Nat.le_of_ble_eq_true rfl) ⟨Nat.le_refl _, Nat.le_refl _⟩ (fun v G' hq => ?_)
          obtain ⟨rfl, hG9⟩ := hq
          replace hG9 := hG9.symm
          subst hG9
          refine x_as rfl rfl rfl ?_
          rw [eCr]
          refine x_if_eqB 88 92 C dX11_takeHop_85 rfl (by decide) (fun h85 => ?_) (fun h85 => ?_)
          · skip
            refine x_iconst 93 C dX11_takeHop_92 rfl ?_
            exact hJ93 _ (by first | (rw [decide_eq_false (show ¬ T0 62 0 = 1 by omega)]; rfl) | (rw [h85, Bool.and_false]; rfl) | (rw [decide_eq_true (show T0 62 0 = 1 by omega), h85]; rfl))
          · skip
            refine x_iconst 89 C dX11_takeHop_88 rfl ?_
            refine x_goto 93 C dX11_takeHop_89 (by decide) ?_
            exact hJ93 _ (by first | (rw [decide_eq_false (show ¬ T0 62 0 = 1 by omega)]; rfl) | (rw [h85, Bool.and_false]; rfl) | (rw [decide_eq_true (show T0 62 0 = 1 by omega), h85]; rfl))
    · skip
      obtain ⟨hmx, hma⟩ := mx1 h66
      refine x_null 70 C dX11_takeHop_69 rfl ?_
      exact x_aret C dX11_takeHop_70 rfl ⟨q40, m, 2, rRec R m q, rfl, by (rw [← hq]; exact rkT_mix hT0 haR hT4 ham ha32 e67), hp0, hm0, Or.inl ⟨hmx, hma, rfl, by rw [hma, hq], h66⟩⟩
  · skip
    refine x_aload_n 9 C dX11_takeHop_8 rfl rfl ?_
    refine x_getIv 12 1307 C fr_X11_270 dX11_takeHop_9 rfl rfl rfl rfl rk r7 ?_
    refine x_if_ne 15 32 C dX11_takeHop_12 rfl (by decide) (by first | exact hRw _ _ | assumption | exact ⟨by omega, by omega⟩ | exact hw.1 _ _ | omega) (fun h12 => ?_) (fun h12 => ?_)
    · skip
      refine x_iconst 33 C dX11_takeHop_32 rfl ?_
      refine x_goto 37 C dX11_takeHop_33 (by decide) ?_
      exact hJ37 _ (by unfold rAfar rFrom; first | rw [if_pos (Or.inl (by omega))] | rw [if_pos (Or.inr (fun z => by have := hpl.mpr z; omega))] | rw [if_neg (fun z => z.elim (fun y => by omega) (fun y => y (hpl.mp (by omega))))])
    · skip
      refine x_aload_n 16 C dX11_takeHop_15 rfl rfl ?_
      refine x_callV (As := []) 19 3 11 482 C vw_X11_273 iw_X0_siteCode sw_X0_siteCode (c_X0_siteCode hW hm0) dX11_takeHop_16 rfl rfl rfl rfl rfl rfl (by assumption) ⟨Nat.le_of_ble_eq_true rfl, Nat.le_of_ble_eq_true rfl⟩ (Nat.le_of_ble_eq_true rfl) ⟨Nat.le_refl _, Nat.le_refl _⟩ (fun v G' hq => ?_)
      obtain ⟨rfl, hG9⟩ := hq
      replace hG9 := hG9.symm
      subst hG9
      refine x_as rfl rfl rfl ?_
      refine x_aload_n 20 C dX11_takeHop_19 rfl rfl ?_
      refine x_getO 23 1300 C fr_X11_276 dX11_takeHop_20 rfl rfl rfl rfl (by assumption) (by assumption) ?_
      refine x_getO 26 1000 C fr_X11_279 dX11_takeHop_23 rfl rfl rfl rfl (by assumption) (by assumption) ?_
      refine x_callV (As := []) 29 3 11 482 C vw_X11_273 iw_X0_siteCode sw_X0_siteCode (c_X0_siteCode hW u1) dX11_takeHop_26 rfl rfl rfl rfl rfl rfl (by assumption) ⟨Nat.le_of_ble_eq_true rfl, Nat.le_of_ble_eq_true rfl⟩ (Nat.le_of_ble_eq_true rfl) ⟨Nat.le_refl _, Nat.le_refl _⟩ (fun v G' hq => ?_)
      obtain ⟨rfl, hG9⟩ := hq
      replace hG9 := hG9.symm
      subst hG9
      refine x_as rfl rfl rfl ?_
      refine x_icmp_eq 32 36 C dX11_takeHop_29 rfl (by decide) (by rw [rkPm_place iH iAd hm0]; have := rPlace_in iH iAd hm0.1 hm0.2; unfold rkPm; split; exact ⟨by omega, by omega⟩; exact ⟨by omega, by omega⟩) (by rw [rkPm_place iH iAd u1]; have := rPlace_in iH iAd u1.1 u1.2; unfold rkPm; split; exact ⟨by omega, by omega⟩; exact ⟨by omega, by omega⟩) (fun h29 => ?_) (fun h29 => ?_)
      · skip
        refine x_iconst 37 C dX11_takeHop_36 rfl ?_
        exact hJ37 _ (by unfold rAfar rFrom; first | rw [if_pos (Or.inl (by omega))] | rw [if_pos (Or.inr (fun z => by have := hpl.mpr z; omega))] | rw [if_neg (fun z => z.elim (fun y => by omega) (fun y => y (hpl.mp (by omega))))])
      · skip
        refine x_iconst 33 C dX11_takeHop_32 rfl ?_
        refine x_goto 37 C dX11_takeHop_33 (by decide) ?_
        exact hJ37 _ (by unfold rAfar rFrom; first | rw [if_pos (Or.inl (by omega))] | rw [if_pos (Or.inr (fun z => by have := hpl.mpr z; omega))] | rw [if_neg (fun z => z.elim (fun y => by omega) (fun y => y (hpl.mp (by omega))))])
