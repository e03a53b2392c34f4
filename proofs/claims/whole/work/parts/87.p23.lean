/-! rows laid by program (wip/tools/genp.py) -/
theorem rkQ_fr {ks ls : List Nat} {G G' : GT} {B : Nat → Nat} {R S : RT} (hB : rkB G B) (hQ : rkQ G B R) (h : rkFr ks ls G G') (hks : ∀ k ∈ ks, (k < 400 ∨ 404 ≤ k) ∧ k ≠ 1101) (hls : B 9 ∉ ls) (hS : ∀ f : Nat, (44 ≤ f ∧ f ≤ 52) ∨ f = 0 ∨ f = 1 → S f = R f) : rkQ G' B S := by
  obtain ⟨⟨σ, τ, q⟩, p, c⟩ := hQ
  have e9 := h.2.2.1 (B 9) (by rw [hB.2.1.2.2.2.2.2.2]; decide) hls
  refine ⟨⟨σ, τ, ?_⟩, ?_, ?_⟩
  · rw [e9, hS 44 (by omega)]
    have q2 := rkQl_G (G' := G') q (fun x hx => by
      have hn : gK G x ≠ 0 := by rw [hx]; decide
      have F : ∀ f : Nat, 400 ≤ f → f < 404 → gI G' f x = gI G f x := fun f a b => (h.2.1 f x hn (fun z => by have := hks f z; omega)).1
      exact ⟨(h.1 x hn).trans hx, F 400 (by decide) (by decide), F 401 (by decide) (by decide), F 402 (by decide) (by decide), F 403 (by decide) (by decide)⟩)
    unfold rkQl rkCn
    rw [hS 46 (by omega), hS 47 (by omega), hS 48 (by omega), hS 49 (by omega), hS 50 (by omega), hS 51 (by omega), hS 52 (by omega)]
    exact q2
  · unfold rkPl rkSl
    rw [hS 44 (by omega), hS 46 (by omega), hS 47 (by omega), hS 48 (by omega), hS 49 (by omega), hS 50 (by omega), hS 51 (by omega), hS 52 (by omega), hS 0 (by omega), hS 1 (by omega)]
    exact p
  · rw [hS 45 (by omega), ← c]
    exact (h.2.1 1101 (B 7) (by rw [hB.1.2.2]; decide) (fun z => (hks 1101 z).2 rfl)).1
theorem rkLt_r {R : RT} {cr a : Int} (hH : RH R) (hD : RAd R) (hP : RP R) (h61 : 0 ≤ R 61 0 ∧ R 61 0 < R 24 0) (h0 : 0 ≤ a ∧ a < R 7 0) (h63 : R 63 0 = bI (decide (cr = 2))) : rkLt R cr (R 67 0) a (R 61 0) = rLets R a := by
  have u := (hP.2 (R 61 0).toNat (by omega)).1
  have d := (hD a.toNat (by omega)).2.2.2.2.2.2.1
  have ob := rkOrg_in hH hD u
  have e63 : decide (R 63 0 = 0) = decide (¬ cr = 2) := by
    rw [h63]
    by_cases c : cr = 2
    · rw [decide_eq_true c, decide_eq_false (show ¬ ¬ cr = 2 from fun z => z c)]; rfl
    · rw [decide_eq_false c, decide_eq_true (show ¬ cr = 2 from c)]; rfl
  unfold rkLt rLets rCan
  rw [e63]
  by_cases c2 : R 14 a.toNat = -2
  · rw [if_pos c2, if_pos c2]
  · rw [if_neg c2, if_neg c2]
    by_cases cc : cr = 2 ∧ R 15 a.toNat = 0
    · rw [if_pos cc, decide_eq_false (show ¬ ¬ cr = 2 from fun z => z cc.1), decide_eq_false (show ¬ ¬ R 15 a.toNat = 0 from fun z => z cc.2)]
      simp
    · have ec : (decide (¬ R 15 a.toNat = 0) || decide (¬ cr = 2)) = true := by
        by_cases e : cr = 2
        · rw [decide_eq_true (show ¬ R 15 a.toNat = 0 from fun z => cc ⟨e, z⟩)]; rfl
        · rw [decide_eq_true (show ¬ cr = 2 from e), Bool.or_true]
      rw [if_neg cc, ec]
      by_cases c3 : R 14 a.toNat = -3
      · rw [if_pos c3, if_pos c3, Bool.and_true]
      · rw [if_neg c3, if_neg c3, Bool.and_true]
        by_cases c4 : 0 ≤ R 14 a.toNat
        · have e1 : rkAll R a = rkOrg R (R 14 a.toNat) := if_neg (by omega)
          have e2 : rSame R (R 14 a.toNat) (rFrom R) = decide (rkOrg R (R 14 a.toNat) = rkOrg R (R 25 (R 61 0).toNat)) := rkOrg_d hD ⟨c4, d.2⟩ u
          rw [decide_eq_true c4, Bool.true_and, e1, e2, Bool.and_comm]
        · have e1 : rkAll R a = R 14 a.toNat := if_pos (by omega)
          rw [decide_eq_false c4, Bool.false_and, e1, decide_eq_false (show ¬ R 14 a.toNat = rkOrg R (R 25 (R 61 0).toNat) by omega), Bool.and_false]
theorem rkNd_v {R : RT} : ior (bI (decide (R 66 0 = 2))) (if R 65 0 = 0 then 0 else 2) = rPfNeeds R := by
  unfold rPfNeeds
  by_cases c : R 66 0 = 2
  · by_cases d : R 65 0 = 0
    · rw [decide_eq_true c, if_pos c, if_pos d]; decide
    · rw [decide_eq_true c, if_pos c, if_neg d]; decide
  · by_cases d : R 65 0 = 0
    · rw [decide_eq_false c, if_neg c, if_pos d]; decide
    · rw [decide_eq_false c, if_neg c, if_neg d]; decide
theorem rPf1_o {R : RT} {a w : Int} (f : Nat) (h : (f < 44 ∨ 53 < f) ∧ f ≠ 1) : rPf1 R a w f = R f := by
  unfold rPf1
  rw [rCon_out (by omega) h.2]
  funext j
  exact u2_k (by omega)
theorem rPfPut_rows {R : RT} {a w : Int} : (∀ g : Nat, g < 54 → rPfPut R a w g = rPf1 R a w g) ∧ rPfPut R a w 54 0 = (if rPfFd R a w = -1 then rPf1 R a w 54 0 + 1 else rPf1 R a w 54 0) ∧ (∀ g : Nat, 55 ≤ g → g ≤ 60 → ∀ j : Nat, j ≠ (rPfI R a w).toNat → rPfPut R a w g j = rPf1 R a w g j) ∧ (rPfPut R a w 55 (rPfI R a w).toNat = rPfOrg R ∧ rPfPut R a w 56 (rPfI R a w).toNat = a ∧ rPfPut R a w 57 (rPfI R a w).toNat = R 63 0 ∧ rPfPut R a w 58 (rPfI R a w).toNat = w ∧ rPfPut R a w 59 (rPfI R a w).toNat = R 16 a.toNat ∧ rPfPut R a w 60 (rPfI R a w).toNat = R 0 0 + R 17 a.toNat) := by
  have e : ∀ g : Nat, g ≠ 54 → rPf2 R a w g = rPf1 R a w g := fun g hg => by
    unfold rPf2
    split
    · funext j
      exact u2_k hg
    · rfl
  have e54 : rPf2 R a w 54 0 = (if rPfFd R a w = -1 then rPf1 R a w 54 0 + 1 else rPf1 R a w 54 0) := by
    unfold rPf2
    split
    · exact u2_s
    · rfl
  have D : ∀ g j : Nat, rPfPut R a w g j = if g = 60 ∧ j = (rPfI R a w).toNat then rPf2 R a w 0 0 + rPf2 R a w 17 a.toNat else if g = 59 ∧ j = (rPfI R a w).toNat then rPf2 R a w 16 a.toNat else if g = 58 ∧ j = (rPfI R a w).toNat then w else if g = 57 ∧ j = (rPfI R a w).toNat then rPf2 R a w 63 0 else if g = 56 ∧ j = (rPfI R a w).toNat then a else if g = 55 ∧ j = (rPfI R a w).toNat then rPfOrg R else rPf2 R a w g j := fun g j => by
    unfold rPfPut rPf3 u2
    rfl
  refine ⟨fun g hg => ?_, ?_, fun g h1 h2 j hj => ?_, ?_, ?_, ?_, ?_, ?_, ?_⟩
  · funext j
    rw [D]
    (repeat rw [if_neg (by omega)])
    rw [e g (by omega)]
  · rw [D]
    (repeat rw [if_neg (by omega)])
    exact e54
  · rw [D]
    (repeat rw [if_neg (by omega)])
    rw [e g (by omega)]
  · rw [D]; (repeat rw [if_neg (by omega)]); exact if_pos ⟨rfl, rfl⟩
  · rw [D]; (repeat rw [if_neg (by omega)]); exact if_pos ⟨rfl, rfl⟩
  · rw [D, if_neg (by omega), if_neg (by omega), if_neg (by omega), if_pos ⟨rfl, rfl⟩, e 63 (by decide), rPf1_o 63 (by decide)]
  · rw [D]; (repeat rw [if_neg (by omega)]); exact if_pos ⟨rfl, rfl⟩
  · rw [D, if_neg (by omega), if_pos ⟨rfl, rfl⟩, e 16 (by decide), rPf1_o 16 (by decide)]
  · rw [D, if_pos ⟨rfl, rfl⟩, e 0 (by decide), e 17 (by decide), rPf1_o 0 (by decide), rPf1_o 17 (by decide)]
theorem rPf_fd {R : RT} {a w : Int} (hF : rkFs R) : (rPfFd R a w = -1 ∧ ∀ k : Nat, (k : Int) < rPf1 R a w 54 0 → ¬ (rPf1 R a w 55 k = rPfOrg R ∧ rPf1 R a w 56 k = a ∧ rPf1 R a w 57 k = R 63 0 ∧ rPf1 R a w 58 k = w)) ∨ ((0 ≤ rPfFd R a w ∧ rPfFd R a w < rPf1 R a w 54 0) ∧ rPf1 R a w 55 (rPfFd R a w).toNat = rPfOrg R ∧ rPf1 R a w 56 (rPfFd R a w).toNat = a ∧ rPf1 R a w 57 (rPfFd R a w).toNat = R 63 0 ∧ rPf1 R a w 58 (rPfFd R a w).toNat = w) := by
  rw [rPf1_o 54 (by decide), rPf1_o 55 (by decide), rPf1_o 56 (by decide), rPf1_o 57 (by decide), rPf1_o 58 (by decide)]
  by_cases c : rPfFd R a w = -1
  · refine Or.inl ⟨c, fun k hk z => ?_⟩
    have := rPfF_one hF (a := a) (w := w) hk z
    omega
  · exact Or.inr (rPfFd_key hF c)
set_option maxHeartbeats 2000000 in
set_option maxRecDepth 100000 in
theorem c_X11_passesPreflight {E : EV} {l : Launch} {G : GT} {B : Nat → Nat} {R : RT} (hW : rkW G B R) {rq hp : Nat} {md cr me0 ta0 af0 a af nv w : Int} (hr : rkRq G B rq (R 61 0) md cr (R 65 0) me0 ta0 af0) (hh : rkHv G B hp a (R 66 0) (R 67 0) af nv (rkPm w)) (h61 : 0 ≤ R 61 0 ∧ R 61 0 < R 24 0) (h0 : 0 ≤ a ∧ a < R 7 0) (hw1 : -1 ≤ w ∧ w ≤ 31) (h63 : R 63 0 = bI (decide (cr = 2))) (hta : R 67 0 = 0 ∨ R 67 0 = 1) (hQ : rkQ G B R) (hF : rkF G B R) (hO : (0 ≤ R 16 a.toNat ∧ R 16 a.toNat ≤ 3) ∧ (0 ≤ R 17 a.toNat ∧ R 17 a.toNat ≤ 1000)) (h48 : gI G 1408 (B 0) = R 0 0) (hnr : 0 ≤ R 0 0 ∧ R 0 0 ≤ 900000000) (h49 : gI G 1409 (B 0) = R 53 0) (h53 : 0 ≤ R 53 0 ∧ R 53 0 ≤ 239) (h45 : 0 ≤ R 45 0 ∧ R 45 0 ≤ 900000) : MT E l yX11_passesPreflight cX11_passesPreflight 6 (some .boolean) 8 217 4 390 [.ref (B 0), .ref rq, .ref hp] (G) (fun v G' => (rPfNeeds R = 0 ∧ v = some (.int (i32 1)) ∧ G' = G) ∨ (¬ rPfNeeds R = 0 ∧ v = some (.int (i32 (bI (rPf R a w)))) ∧ rkFr [403, 1101, 1409] [B 9, B 5] G G' ∧ rkQ G' B (rPfR R a w) ∧ rkF G' B (rPfR R a w) ∧ gI G' 1409 (B 0) = rPfR R a w 53 0)) := by
  refine mt_of (own := RX11) (L := [some (.ref (B 0)), some (.ref rq), some (.ref hp), none, none, none]) (by decide +kernel) rfl (Nat.le_of_ble_eq_true rfl) (List.forall_mem_cons.mpr ⟨rfl, (List.forall_mem_cons.mpr ⟨rfl, (List.forall_mem_cons.mpr ⟨rfl, (fun _ h => absurd h List.not_mem_nil)⟩)⟩)⟩) rfl ?_
  intro p e s m args below meth c C hin
  refine x_wf (fun hw => ?_)
  obtain ⟨hB, hH, hA, hP, hI⟩ := id hW
  obtain ⟨⟨b0, b6, b7⟩, ⟨bk1, bk2, bk3, bk4, bk5, bk8, bk9⟩, ⟨bp0, bp1, bp2, bp3, bp4, bp5, bp6, bp7, bp8⟩, -⟩ := id hB
  obtain ⟨hl1, hh1⟩ := id hH
  obtain ⟨hl2, hh2⟩ := id hA
  obtain ⟨hl3, hh3⟩ := id hP
  obtain ⟨iH, iA, iAd, iHl, iP, iS, hRw, iU⟩ := id hI
  have iH1 := iH.1
  have iA1 := iA.1
  have iA2 := iA.2
  have iP1 := iP.1
  obtain ⟨rk, r0, r1, r2, r3, r5, r6, r7⟩ := id hr
  obtain ⟨hk, hp0, hp1, hp2, hp3, hp4, hp5⟩ := id hh
  obtain ⟨⟨a1, a2, a3, a4, a5, a6⟩, -, ⟨e1, e2, e3, e4, e5, e8⟩, -⟩ := hh2 a h0.1 h0.2
  have u1 := (iP.2 (R 61 0).toNat (by omega)).1
  have hog := rkOg_org iH iAd u1
  have hok : rkFk R (rPfOrg R) a (R 63 0) w := ⟨by (unfold rPfOrg; split; exact Or.inr hog.2; exact Or.inl rfl), h0, hw1⟩
  have hoe : rkOg (rPfOrg R) = (if R 67 0 = 0 then rkOrg R (R 25 (R 61 0).toNat) else -3) := by (unfold rPfOrg; split; exact hog.1; rfl)
  have rpm : InR (rkPm w) := by (unfold rkPm; split; exact ⟨by omega, by omega⟩; exact ⟨by omega, by omega⟩)
  have hlt := rkLt_r iH iAd iP h61 h0 h63
  have hmn : ∀ x ∈ gL G (B 5), gK G x = 12 := fun x hx => by (obtain ⟨k, -, k2, -⟩ := hF.2.2.1 x hx; exact k2.1)
  have hl5a := hF.1
  refine x_joinv 13 (fun vJ => vJ = bI (decide (R 66 0 = 2))) ?_ (fun hJ13 => ?_)
  · intro vJ hJ
    subst hJ
    refine x_joinv 25 (fun vJ => vJ = if R 65 0 = 0 then 0 else 2) ?_ (fun hJ25 => ?_)
    · intro vJ hJ
      subst hJ
      refine x_ior 26 C dX11_passesPreflight_25 rfl ?_
      rw [rkNd_v]
      have hndr : InR (rPfNeeds R) := by (unfold rPfNeeds; split <;> split <;> exact ⟨by omega, by omega⟩)
      refine x_istore_n 27 C dX11_passesPreflight_26 rfl rfl rfl ?_
      refine x_iload_n 28 C dX11_passesPreflight_27 rfl rfl ?_
      refine x_if_ne 31 33 C dX11_passesPreflight_28 rfl (by decide) hndr (fun h28 => ?_) (fun h28 => ?_)
      · skip
        refine x_new (kc0 := 3) (ks0 := 384) 36 12 C nwd_X11_357 rfl rfl dX11_passesPreflight_33 rfl ⟨by omega, by omega⟩ (fun q33 hq33 => ?_)
        obtain ⟨G4, hG4⟩ : ∃ G4 : GT, G4 = nO G q33 12 := ⟨_, rfl⟩
        refine x_as (G' := G4) hG4 rfl rfl ?_
        have hF4 : rkFr [] [] G G4 := by (rw [hG4]; exact fr_nO hq33 (by decide) fr_rfl)
        have hW4 := rkW_fr hW hF4 (fun k z => by cases z) ⟨List.not_mem_nil, List.not_mem_nil, List.not_mem_nil⟩ (fun x z => by cases z)
        have hr4 := rkRq_fr hr hF4 (fun k z => by cases z) (hF4.2.2.1 (B 3) (by omega) List.not_mem_nil)
        have hh4 := rkHv_fr hh hF4 (fun k z => by cases z) (hF4.2.2.1 (B 2) (by omega) List.not_mem_nil)
        have hk4 : gK G4 q33 = 12 := by (rw [hG4]; exact nO_q)
        have b04 : gK G4 (B 0) = 14 := (hF4.1 (B 0) (by omega)).trans b0
        have n48 : gI G4 1408 (B 0) = R 0 0 := ((hF4.2.1 1408 (B 0) (by omega) List.not_mem_nil).1).trans h48
        refine x_dup 37 C dX11_passesPreflight_36 rfl rfl ?_
        refine x_aload_n 38 C dX11_passesPreflight_37 rfl rfl ?_
        refine x_aload_n 39 C dX11_passesPreflight_38 rfl rfl ?_
        refine x_aload_n 40 C dX11_passesPreflight_39 rfl rfl ?_
        refine x_getIv 43 1408 C fr_X11_255 dX11_passesPreflight_40 rfl rfl rfl rfl (by assumption) (by first | assumption | rfl) ?_
        refine x_callI (As := [_, _, _]) 46 3 384 C vw_X11_359 iw_X9_init rfl (c_X9_init hW4 hk4 hr4 h61 hh4 h0 ⟨hnr.1, by omega⟩ hO.2) dX11_passesPreflight_43 rfl rfl rfl ⟨Nat.le_of_ble_eq_true rfl, Nat.le_of_ble_eq_true rfl⟩ (Nat.le_of_ble_eq_true rfl) ⟨Nat.le_refl _, Nat.le_refl _⟩ (fun v G' hq => ?_)
        obtain ⟨rfl, hG9⟩ := hq
        replace hG9 := hG9.symm
        subst hG9
        obtain ⟨G5, hG5⟩ : ∃ G5 : GT, G5 = rkNewPr G4 q33 (rkAt G4 (B 2) a) (if R 67 0 = 0 then rkOrg R (R 25 (R 61 0).toNat) else -3) (bI (decide (cr = 2))) (rkPm w) (R 16 a.toNat) (R 0 0 + R 17 a.toNat) := ⟨_, rfl⟩
        refine x_as (G' := G5) hG5 rfl rfl ?_
        have hF5 : rkFr [] [] G G5 := by (rw [hG5]; exact fr_sIq hq33 (fr_sIq hq33 (fr_sIq hq33 (fr_sIq hq33 (fr_sPq hq33 (by decide) (fr_sIq hq33 hF4))))))
        have hW5 := rkW_fr hW hF5 (fun k z => by cases z) ⟨List.not_mem_nil, List.not_mem_nil, List.not_mem_nil⟩ (fun x z => by cases z)
        have hF55 : rkF G5 B R := rkF_fr hB hF hF5 (fun k z => by cases z) ⟨List.not_mem_nil, List.not_mem_nil⟩ (fun _ _ => rfl) (Int.le_refl _)
        have el25 : gL G5 (B 2) = gL G4 (B 2) := by (rw [hG5]; rfl)
        have el5 : gL G5 (B 5) = gL G (B 5) := hF5.2.2.1 (B 5) (by omega) List.not_mem_nil
        have hy0 : gK G5 q33 = 12 := by (rw [hG5]; exact hk4)
        have hy : gI G5 1200 q33 = rkOg (rPfOrg R) ∧ gP G5 1201 q33 = some (rkAt G5 (B 2) a) ∧ gI G5 1202 q33 = R 63 0 ∧ gI G5 1203 q33 = rkPm w := by (rw [rkAt_same el25, hoe, h63, hG5]; unfold rkNewPr; refine ⟨?_, ?_, ?_, ?_⟩; (rw [rk_II, u2_k (by decide), rk_II, u2_k (by decide), rk_II, u2_k (by decide), rk_II, u2_k (by decide), rk_IP, rk_II, u2_s]); (rw [rk_PI, rk_PI, rk_PI, rk_PI, rk_PP, u2_s]); (rw [rk_II, u2_k (by decide), rk_II, u2_k (by decide), rk_II, u2_k (by decide), rk_II, u2_s]); (rw [rk_II, u2_k (by decide), rk_II, u2_k (by decide), rk_II, u2_s]))
        have hy4 : gI G5 1204 q33 = R 16 a.toNat := by (rw [hG5]; unfold rkNewPr; rw [rk_II, u2_k (by decide), rk_II, u2_s])
        have hy5 : gI G5 1205 q33 = R 0 0 + R 17 a.toNat := by (rw [hG5]; unfold rkNewPr; rw [rk_II, u2_s])
        have b05 : gK G5 (B 0) = 14 := (hF5.1 (B 0) (by omega)).trans b0
        have n49 : gI G5 1409 (B 0) = R 53 0 := ((hF5.2.1 1409 (B 0) (by omega) List.not_mem_nil).1).trans h49
        have hn55 : ((gL G5 (B 5)).length : Int) ≤ 240 := by (rw [el5]; omega)
        have hpf5 : ∀ p : Int, 0 ≤ p → p < ((gL G5 (B 5)).length : Int) → gK G5 (rkAt G5 (B 5) p) = 12 ∧ ∃ a1, gP G5 1201 (rkAt G5 (B 5) p) = some a1 := fun p p0 p1 => by (obtain ⟨k, -, k2, -⟩ := hF55.2.2.1 _ (List.mem_of_getElem? (rkAt_get rfl p0 p1)); exact ⟨k2.1, _, k2.2.2.1⟩)
        have hA5 : ∀ i, 0 ≤ i → i < R 7 0 → gI G5 300 (rkAt G5 (B 2) i) = i := fun i i0 i1 => (hW5.2.2.1.2 i i0 i1).1.2.1
        refine x_astore 48 C dX11_passesPreflight_46 rfl rfl rfl ?_
        refine x_aload_n 49 C dX11_passesPreflight_48 rfl rfl ?_
        refine x_aload 51 C dX11_passesPreflight_49 rfl rfl ?_
        refine x_callV (As := [_]) 54 14 3 384 C vw_X11_362 iw_X11_findKept sw_X11_findKept (c_X11_findKept hW5.1 (n := ((gL G5 (B 5)).length : Int)) rfl hn55 hpf5 ⟨hy0, hy.2.1⟩) dX11_passesPreflight_51 rfl rfl rfl rfl rfl rfl b05 ⟨Nat.le_of_ble_eq_true rfl, Nat.le_of_ble_eq_true rfl⟩ (Nat.le_of_ble_eq_true rfl) ⟨Nat.le_refl _, Nat.le_refl _⟩ (fun v G' hq => ?_)
        obtain ⟨hG8, hfk⟩ := hq
        replace hG8 := hG8.symm
        subst hG8
        obtain ⟨r9, rfl, hr9⟩ : ∃ r9 : Option Nat, v = some (va_rf r9) ∧ ((r9 = none ∧ ∀ p : Int, 0 ≤ p → p < ((gL G5 (B 5)).length : Int) → ¬ rkSm G5 (rkAt G5 (B 5) p) q33) ∨ (∃ p : Int, (0 ≤ p ∧ p < ((gL G5 (B 5)).length : Int)) ∧ rkSm G5 (rkAt G5 (B 5) p) q33 ∧ r9 = some (rkAt G5 (B 5) p))) := hfk.elim (fun z => ⟨none, z.1, Or.inl ⟨rfl, z.2⟩⟩) (fun ⟨p, p1, p2, p3⟩ => ⟨some _, p3, Or.inr ⟨p, p1, p2, rfl⟩⟩)
        refine x_as rfl rfl rfl ?_
        refine x_astoreq 56 C dX11_passesPreflight_54 rfl rfl rfl ?_
        refine x_joinK (kc1 := 3) (ks1 := 384) (α := Unit) 74 (fun u => rPfHit R a w = false) (fun u => G5) (fun u => [some (.ref (B 0)), some (.ref rq), some (.ref hp), some (.int (i32 (rPfNeeds R))), some (.ref q33), none]) (fun u => []) ?_ (fun hJ74 => ?_)
        · intro aa hJ
          obtain ⟨u, rfl⟩ := (⟨aa, rfl⟩ : ∃ z, z = aa)
          (try dsimp only at hJ); (try dsimp only)
          have hmiss := hJ
          refine x_aload_n 75 C dX11_passesPreflight_74 rfl rfl ?_
          refine x_dup 76 C dX11_passesPreflight_75 rfl rfl ?_
          refine x_getIv 79 1409 C fr_X11_369 dX11_passesPreflight_76 rfl rfl rfl rfl (by assumption) (by first | assumption | rfl) ?_
          refine x_iconst 80 C dX11_passesPreflight_79 rfl ?_
          refine x_iadd 81 C dX11_passesPreflight_80 rfl ?_
          refine x_putI 84 1409 C fw_X11_369 (fun h => by cases h) dX11_passesPreflight_81 rfl rfl rfl rfl rfl (by assumption) (by first | exact hRw _ _ | assumption | exact ⟨by omega, by omega⟩ | exact hw.1 _ _ | omega) ?_
          obtain ⟨G6, hG6⟩ : ∃ G6 : GT, G6 = sI G5 1409 (B 0) (R 53 0 + 1) := ⟨_, rfl⟩
          refine x_as (G' := G6) hG6 rfl rfl ?_
          obtain ⟨R1, hR1⟩ : ∃ R1 : RT, R1 = u2 R 53 0 (R 53 0 + 1) := ⟨_, rfl⟩
          have hR1o : ∀ f : Nat, f ≠ 53 → R1 f = R f := fun f hf => by (rw [hR1]; funext j; exact u2_k hf)
          have hF56 : rkFr [1409] [] G5 G6 := by (rw [hG6]; exact fr_sI (by decide) (by decide) fr_rfl)
          have hF6 : rkFr [1409] [] G G6 := fr_tr (fr_wide hF5 (fun k z => by cases z) (fun k z => by cases z)) hF56
          have hW6 : rkW G6 B R1 := by (rw [hR1]; exact rkW_R (rkW_fr hW hF6 (by decide) ⟨List.not_mem_nil, List.not_mem_nil, List.not_mem_nil⟩ (fun x z => by cases z)) (Fs.refl.u (Or.inr (by decide))) (fun k j => by (unfold u2; split; exact ⟨by omega, by omega⟩; exact hRw _ _)))
          have hQ6 : rkQ G6 B R1 := rkQ_fr hB hQ hF6 (by decide) List.not_mem_nil (fun f hf => hR1o f (by omega))
          have el26 : gL G6 (B 2) = gL G (B 2) := hF6.2.2.1 (B 2) (by omega) List.not_mem_nil
          have b76 := hW6.1.1.2.2
          have b06 := hW6.1.1.1
          have np6 := hW6.1.2.2.1.2.2.2.2.2.2.1
          have hk6 : gK G6 hp = 7 := (hF6.1 hp (by omega)).trans hk
          have hp06 : gP G6 700 hp = some (rkAt G (B 2) a) := ((hF6.2.1 700 hp (by omega) (by decide)).2).trans hp0
          have hp56 : gI G6 705 hp = rkPm w := ((hF6.2.1 705 hp (by omega) (by decide)).1).trans hp5
          have n486 : gI G6 1408 (B 0) = R 0 0 := ((hF6.2.1 1408 (B 0) (by omega) (by decide)).1).trans h48
          refine x_aload_n 85 C dX11_passesPreflight_84 rfl rfl ?_
          refine x_getO 88 1406 C fr_X11_38 dX11_passesPreflight_85 rfl rfl rfl rfl (by assumption) (by assumption) ?_
          refine x_aload_n 89 C dX11_passesPreflight_88 rfl rfl ?_
          refine x_getO 92 700 C fr_X11_310 dX11_passesPreflight_89 rfl rfl rfl rfl (by assumption) (by assumption) ?_
          refine x_iconst 93 C dX11_passesPreflight_92 rfl ?_
          refine x_aload_n 94 C dX11_passesPreflight_93 rfl rfl ?_
          refine x_getIv 97 705 C fr_X11_311 dX11_passesPreflight_94 rfl rfl rfl rfl (by assumption) (by first | assumption | rfl) ?_
          refine x_aload_n 98 C dX11_passesPreflight_97 rfl rfl ?_
          refine x_getIv 101 1408 C fr_X11_255 dX11_passesPreflight_98 rfl rfl rfl rfl (by assumption) (by first | assumption | rfl) ?_
          refine x_as (st' := [.int (i32 (R1 0 0)), .int (i32 (rkPm w)), .int (i32 0), .ref (rkAt G6 (B 2) a), .ref (B 7)]) rfl rfl (by rw [hR1o 0 (by decide), rkAt_same el26]) ?_
          refine x_callV (As := [_, _, _, _]) 104 11 1 360 C vw_X11_314 iw_X8_use sw_X8_use (c_X8_use hW6 hQ6 ⟨h0.1, by rw [hR1o 7 (by decide)]; exact h0.2⟩ (Or.inl rfl) hw1 (by rw [hR1o 45 (by decide)]; omega) (by rw [hR1o 0 (by decide)]; omega)) dX11_passesPreflight_101 rfl rfl rfl rfl rfl rfl b76 ⟨Nat.le_of_ble_eq_true rfl, Nat.le_of_ble_eq_true rfl⟩ (Nat.le_of_ble_eq_true rfl) ⟨by omega, by omega⟩ (fun v G' hq => ?_)
          obtain ⟨rfl, hF67, hQ7a⟩ := hq
          obtain ⟨G7, hG7⟩ : ∃ z, z = G' := ⟨_, rfl⟩
          subst hG7
          refine x_as rfl rfl rfl ?_
          have hT : (rPf1 R a w) = rConR R1 a 0 w := by (rw [hR1]; rfl)
          have hQ7 : rkQ G7 B (rPf1 R a w) := by (rw [hT]; exact hQ7a)
          have hF57 : rkFr [403, 1101, 1409] [B 9] G5 G7 := fr_tr (fr_wide hF56 (fun k z => by simp at z; simp [z]) (fun k z => by cases z)) (fr_wide hF67 (fun k z => by simp at z; rcases z with rfl | rfl <;> simp) (fun k z => z))
          have hF07 : rkFr [403, 1101, 1409] [B 9] G G7 := fr_tr (fr_wide hF5 (fun k z => by cases z) (fun k z => by cases z)) hF57
          have hne9 : B 1 ≠ B 9 ∧ B 2 ≠ B 9 ∧ B 3 ≠ B 9 ∧ B 5 ≠ B 9 ∧ B 2 ≠ B 5 := ⟨hB.2.2.2.2.2.2.2.2.1, hB.2.2.2.2.2.2.2.2.2.2.2.2.2.1, hB.2.2.2.2.2.2.2.2.2.2.2.2.2.2.2.2.2.1, hB.2.2.2.2.2.2.2.2.2.2.2.2.2.2.2.2.2.2.2.2.2.2.1, hB.2.2.2.2.2.2.2.2.2.2.2.1⟩
          have hW7 := rkW_fr hW hF07 (by decide) ⟨by simpa using hne9.1, by simpa using hne9.2.1, by simpa using hne9.2.2.1⟩ (fun x z => by (have z2 := List.mem_singleton.mp z; rw [z2]; omega))
          have el27 : gL G7 (B 2) = gL G5 (B 2) := hF57.2.2.1 (B 2) (by have := hW5.1.2.1.2.1; omega) (by simpa using hne9.2.1)
          have el57 : gL G7 (B 5) = gL G5 (B 5) := hF57.2.2.1 (B 5) (by have := hW5.1.2.1.2.2.2.2.1; omega) (by simpa using hne9.2.2.2.1)
          have el37 : gL G7 (B 3) = gL G (B 3) := hF07.2.2.1 (B 3) (by omega) (by simpa using hne9.2.2.1)
          have el207 : gL G7 (B 2) = gL G (B 2) := hF07.2.2.1 (B 2) (by omega) (by simpa using hne9.2.1)
          have hr7 := rkRq_fr hr hF07 (by decide) el37
          have hh7 := rkHv_fr hh hF07 (by decide) el207
          have hF77 : rkF G7 B (rPf1 R a w) := rkF_fr hW5.1 hF55 hF57 (by decide) ⟨by simpa using hne9.2.1, by simpa using hne9.2.2.2.1⟩ (fun f hf => rPf1_o f (by omega)) (by rw [rPf1_53]; omega)
          have hy07 : gK G7 q33 = 12 := (hF57.1 q33 (by omega)).trans hy0
          have Y7 : ∀ f : Nat, 1200 ≤ f → f < 1206 → gI G7 f q33 = gI G5 f q33 ∧ gP G7 f q33 = gP G5 f q33 := fun f f1 f2 => hF57.2.1 f q33 (by omega) (fun z => by (simp at z; omega))
          have hy7 : gI G7 1200 q33 = rkOg (rPfOrg R) ∧ gP G7 1201 q33 = some (rkAt G7 (B 2) a) ∧ gI G7 1202 q33 = R 63 0 ∧ gI G7 1203 q33 = rkPm w := by (rw [(Y7 1200 (by decide) (by decide)).1, (Y7 1201 (by decide) (by decide)).2, (Y7 1202 (by decide) (by decide)).1, (Y7 1203 (by decide) (by decide)).1, rkAt_same el27]; exact hy)
          have hy47 : gI G7 1204 q33 = R 16 a.toNat := ((Y7 1204 (by decide) (by decide)).1).trans hy4
          have hy57 : gI G7 1205 q33 = R 0 0 + R 17 a.toNat := ((Y7 1205 (by decide) (by decide)).1).trans hy5
          have n497 : gI G7 1409 (B 0) = R 53 0 + 1 := ((hF67.2.1 1409 (B 0) (by omega) (by decide)).1).trans (by rw [hG6]; exact u2_s)
          have hn57 : ((gL G7 (B 5)).length : Int) ≤ 240 := by (rw [el57]; exact hn55)
          have b07 := hW7.1.1.1
          have hk7 := hh7.1
          have hp07 : gP G7 700 hp = some (rkAt G (B 2) a) := ((hF07.2.1 700 hp (by omega) (by decide)).2).trans hp0
          have ak7 : gK G7 (rkAt G (B 2) a) = 3 := (hF07.1 _ (by omega)).trans a1
          have a117 : gI G7 311 (rkAt G (B 2) a) = R 17 a.toNat := ((hF07.2.1 311 _ (by omega) (by decide)).1).trans e8
          have hpf7 : ∀ p : Int, 0 ≤ p → p < ((gL G7 (B 5)).length : Int) → gK G7 (rkAt G7 (B 5) p) = 12 ∧ ∃ a1, gP G7 1201 (rkAt G7 (B 5) p) = some a1 := fun p p0 p1 => by (obtain ⟨k, -, k2, -⟩ := hF77.2.2.1 _ (List.mem_of_getElem? (rkAt_get rfl p0 p1)); exact ⟨k2.1, _, k2.2.2.1⟩)
          have hyn7 : q33 ∉ gL G7 (B 5) := fun z => by (rw [el57, el5] at z; have := hmn q33 z; omega)
          have hA7 : ∀ i, 0 ≤ i → i < (rPf1 R a w) 7 0 → gI G7 300 (rkAt G7 (B 2) i) = i := fun i i0 i1 => (hW7.2.2.1.2 i i0 (by rw [rPf1_o 7 (by decide)] at i1; exact i1)).1.2.1
          have hok7 : rkFk (rPf1 R a w) (rPfOrg R) a (R 63 0) w := by (unfold rkFk; rw [rPf1_o 7 (by decide)]; exact hok)
          refine x_aload 106 C dX11_passesPreflight_104 rfl rfl ?_
          refine x_getIv 109 1204 C fr_X11_366 dX11_passesPreflight_106 rfl rfl rfl rfl (by assumption) (by first | assumption | rfl) ?_
          refine x_iload_n 110 C dX11_passesPreflight_109 rfl rfl ?_
          refine x_iand 111 C dX11_passesPreflight_110 rfl ?_
          refine x_iload_n 112 C dX11_passesPreflight_111 rfl rfl ?_
          refine x_icmp_ne 115 123 C dX11_passesPreflight_112 rfl (by decide) (iand_in _ _) hndr (fun h112 => ?_) (fun h112 => ?_)
          · skip
            have hokf : rPfOk R a = false := by (unfold rPfOk; rw [decide_eq_false h112, Bool.and_false])
            refine x_iconst 124 C dX11_passesPreflight_123 rfl ?_
            exact x_iret C dX11_passesPreflight_124 rfl (Or.inr ⟨h28, vi (by unfold rPf; rw [hmiss, hokf]; rfl), fr_wide hF07 (fun k z => z) (fun k z => by simp at z; simp [z]), by (have hRR : rPfR R a w = (rPf1 R a w) := (if_neg (by rw [hmiss]; decide)).trans (if_neg (fun z => by (rw [hokf] at z; exact absurd z.1 (by decide)))); rw [hRR]; exact ⟨hQ7, hF77, by rw [n497, rPf1_53]⟩)⟩)
          · skip
            refine x_aload_n 116 C dX11_passesPreflight_115 rfl rfl ?_
            refine x_aload_n 117 C dX11_passesPreflight_116 rfl rfl ?_
            refine x_callS (As := [_, _]) 120 1 360 C vw_X11_326 tw_X11_isLetByAnswer (c_X11_isLetByAnswer hW7 hr7 h61 hh7 h0 hta) dX11_passesPreflight_117 rfl rfl rfl ⟨Nat.le_of_ble_eq_true rfl, Nat.le_of_ble_eq_true rfl⟩ (Nat.le_of_ble_eq_true rfl) ⟨Nat.le_refl _, Nat.le_refl _⟩ (fun v G' hq => ?_)
            obtain ⟨rfl, hG9⟩ := hq
            replace hG9 := hG9.symm
            subst hG9
            refine x_as rfl rfl rfl ?_
            refine x_if_neB 123 125 C dX11_passesPreflight_120 rfl (by decide) (fun h120 => ?_) (fun h120 => ?_)
            · skip
              have hokt : rPfOk R a = true := by (unfold rPfOk; rw [← hlt, h120, decide_eq_true h112]; rfl)
              refine x_aload_n 126 C dX11_passesPreflight_125 rfl rfl ?_
              refine x_getO 129 700 C fr_X11_310 dX11_passesPreflight_126 rfl rfl rfl rfl (by assumption) (by assumption) ?_
              refine x_getIv 132 311 C fr_X11_199 dX11_passesPreflight_129 rfl rfl rfl rfl (by assumption) (by first | assumption | rfl) ?_
              refine x_if_le 135 141 C dX11_passesPreflight_132 rfl (by decide) (by first | exact hRw _ _ | assumption | exact ⟨by omega, by omega⟩ | exact hw.1 _ _ | omega) (fun h132 => ?_) (fun h132 => ?_)
              · skip
                refine x_iconst 142 C dX11_passesPreflight_141 rfl ?_
                exact x_iret C dX11_passesPreflight_142 rfl (by first | (have hz : ¬ 0 < R 17 a.toNat := (by omega); have hRR : rPfR R a w = (rPf1 R a w) := (if_neg (by rw [hmiss]; decide)).trans (if_neg (fun z => hz z.2)); rw [hRR]; exact Or.inr ⟨h28, vi (by unfold rPf; rw [hokt, Bool.or_true]; rfl), fr_wide hF07 (fun k z => z) (fun k z => by simp at z; simp [z]), hQ7, hF77, by rw [n497, rPf1_53]⟩) | (have hz : 0 < R 17 a.toNat := (by omega); have hRR : rPfR R a w = rPfPut R a w := (if_neg (by rw [hmiss]; decide)).trans (if_pos ⟨hokt, hz⟩); have hS0 : rPfPut R a w 0 0 = R 0 0 := (by rw [rPfPut_rows.1 0 (by decide), rPf1_o 0 (by decide)]); have hS53 : rPfPut R a w 53 0 = R 53 0 + 1 := (by rw [rPfPut_rows.1 53 (by decide), rPf1_53]); have hS7 : rPfPut R a w 7 0 = (rPf1 R a w) 7 0 := (by rw [rPfPut_rows.1 7 (by decide)]); rw [hRR]; exact Or.inr ⟨h28, vi (by unfold rPf; rw [hokt, Bool.or_true]; rfl), fr_sL (by simp) (fr_wide hF07 (fun k z => z) (fun k z => by simp at z; simp [z])), rkQ_fr hW7.1 hQ7 (fr_sL List.mem_cons_self fr_rfl : rkFr [] [B 5] G7 (sL G7 (B 5) l9)) (fun k z => by cases z) (by simpa using (fun z => hne9.2.2.2.1 z.symm)) (fun f hf => rPfPut_rows.1 f (by omega)), rkF_keep hA7 hF77 hy07 hy7 hy47 hy57 hok7 (rPf_fd hF.2.2.2.2.2) rfl rPfPut_rows.2.1 rPfPut_rows.2.2.1 rPfPut_rows.2.2.2 (by rw [rPfPut_rows.1 0 (by decide)]) hS7 (by rw [hS53, el57, el5]; omega) (by rw [hS0]; omega) l1 l2 l3 l4 l5 hne9.2.2.2.2, by (show gI G7 1409 (B 0) = _; rw [n497, hS53])⟩))
              · skip
                refine x_aload_n 136 C dX11_passesPreflight_135 rfl rfl ?_
                refine x_aload 138 C dX11_passesPreflight_136 rfl rfl ?_
                refine x_callV (As := [_]) 141 14 0 0 C vw_X11_372 iw_X11_keep sw_X11_keep (c_X11_keep hW7.1 (n := ((gL G7 (B 5)).length : Int)) rfl hn57 hpf7 ⟨hy07, hy7.2.1⟩) dX11_passesPreflight_138 rfl rfl rfl rfl rfl rfl b07 ⟨Nat.le_of_ble_eq_true rfl, Nat.le_of_ble_eq_true rfl⟩ (Nat.le_of_ble_eq_true rfl) ⟨by omega, by omega⟩ (fun v G' hq => ?_)
                obtain ⟨rfl, hkp⟩ := hq
                obtain ⟨l9, hG9, l1, l2, l3, l4, l5⟩ := rkF_list hA7 hF77 rfl hy7 hok7 hyn7 hkp
                subst hG9
                refine x_as rfl rfl rfl ?_
                refine x_iconst 142 C dX11_passesPreflight_141 rfl ?_
                exact x_iret C dX11_passesPreflight_142 rfl (by first | (have hz : ¬ 0 < R 17 a.toNat := (by omega); have hRR : rPfR R a w = (rPf1 R a w) := (if_neg (by rw [hmiss]; decide)).trans (if_neg (fun z => hz z.2)); rw [hRR]; exact Or.inr ⟨h28, vi (by unfold rPf; rw [hokt, Bool.or_true]; rfl), fr_wide hF07 (fun k z => z) (fun k z => by simp at z; simp [z]), hQ7, hF77, by rw [n497, rPf1_53]⟩) | (have hz : 0 < R 17 a.toNat := (by omega); have hRR : rPfR R a w = rPfPut R a w := (if_neg (by rw [hmiss]; decide)).trans (if_pos ⟨hokt, hz⟩); have hS0 : rPfPut R a w 0 0 = R 0 0 := (by rw [rPfPut_rows.1 0 (by decide), rPf1_o 0 (by decide)]); have hS53 : rPfPut R a w 53 0 = R 53 0 + 1 := (by rw [rPfPut_rows.1 53 (by decide), rPf1_53]); have hS7 : rPfPut R a w 7 0 = (rPf1 R a w) 7 0 := (by rw [rPfPut_rows.1 7 (by decide)]); rw [hRR]; exact Or.inr ⟨h28, vi (by unfold rPf; rw [hokt, Bool.or_true]; rfl), fr_sL (by simp) (fr_wide hF07 (fun k z => z) (fun k z => by simp at z; simp [z])), rkQ_fr hW7.1 hQ7 (fr_sL List.mem_cons_self fr_rfl : rkFr [] [B 5] G7 (sL G7 (B 5) l9)) (fun k z => by cases z) (by simpa using (fun z => hne9.2.2.2.1 z.symm)) (fun f hf => rPfPut_rows.1 f (by omega)), rkF_keep hA7 hF77 hy07 hy7 hy47 hy57 hok7 (rPf_fd hF.2.2.2.2.2) rfl rPfPut_rows.2.1 rPfPut_rows.2.2.1 rPfPut_rows.2.2.2 (by rw [rPfPut_rows.1 0 (by decide)]) hS7 (by rw [hS53, el57, el5]; omega) (by rw [hS0]; omega) l1 l2 l3 l4 l5 hne9.2.2.2.2, by (show gI G7 1409 (B 0) = _; rw [n497, hS53])⟩))
            · skip
              have hokf : rPfOk R a = false := by (unfold rPfOk; rw [← hlt, h120, Bool.false_and])
              refine x_iconst 124 C dX11_passesPreflight_123 rfl ?_
              exact x_iret C dX11_passesPreflight_124 rfl (Or.inr ⟨h28, vi (by unfold rPf; rw [hmiss, hokf]; rfl), fr_wide hF07 (fun k z => z) (fun k z => by simp at z; simp [z]), by (have hRR : rPfR R a w = (rPf1 R a w) := (if_neg (by rw [hmiss]; decide)).trans (if_neg (fun z => by (rw [hokf] at z; exact absurd z.1 (by decide)))); rw [hRR]; exact ⟨hQ7, hF77, by rw [n497, rPf1_53]⟩)⟩)
        · skip
          refine x_aloadq 58 C dX11_passesPreflight_56 rfl rfl ?_
          refine x_ifnull 61 74 C dX11_passesPreflight_58 rfl (by decide) (fun h58 => ?_) (fun a58 h58 => ?_)
          · skip
            have hmiss := (rkF_miss hA5 hF55 hy hok (hr9.elim (fun z x hx => by (obtain ⟨i, i0, i1, rfl⟩ := rkAt_mem rfl hx; exact z.2 i i0 i1)) (fun z => by (obtain ⟨p, p1, p2, p3⟩ := z; rw [h58] at p3; cases p3)))).1
            refine x_less ?_ (hJ74 () hmiss); exact ⟨rfl, rfl, rfl, rfl, rfl, trivial⟩
          · skip
            obtain ⟨p9, hp9, hsm, hr92⟩ := hr9.elim (fun z => by (rw [h58] at z; cases z.1)) id
            obtain ⟨hfd, hpf9, hg9, hhit⟩ := rkF_hit hA5 hF55 hy hok (List.mem_of_getElem? (rkAt_get rfl hp9.1 hp9.2)) hsm
            rw [hr92]
            have kx9 := hpf9.1
            refine x_aload 63 C dX11_passesPreflight_61 rfl rfl ?_
            refine x_getIv 66 1204 C fr_X11_366 dX11_passesPreflight_63 rfl rfl rfl rfl (by assumption) (by first | assumption | rfl) ?_
            refine x_iload_n 67 C dX11_passesPreflight_66 rfl rfl ?_
            refine x_iand 68 C dX11_passesPreflight_67 rfl ?_
            refine x_iload_n 69 C dX11_passesPreflight_68 rfl rfl ?_
            refine x_icmp_ne 72 74 C dX11_passesPreflight_69 rfl (by decide) (iand_in _ _) hndr (fun h69 => ?_) (fun h69 => ?_)
            · skip
              have hmiss : rPfHit R a w = false := hhit.trans (decide_eq_false h69)
              refine x_less ?_ (hJ74 () hmiss); exact ⟨rfl, rfl, rfl, rfl, rfl, trivial⟩
            · skip
              have hhit2 : rPfHit R a w = true := hhit.trans (decide_eq_true h69)
              refine x_iconst 73 C dX11_passesPreflight_72 rfl ?_
              exact x_iret C dX11_passesPreflight_73 rfl (Or.inr ⟨h28, vi (by unfold rPf; rw [hhit2]; rfl), fr_wide hF5 (fun k z => by cases z) (fun k z => by cases z), by (have hRR : rPfR R a w = R := if_pos hhit2; rw [hRR]; exact ⟨rkQ_fr hB hQ hF5 (fun k z => by cases z) List.not_mem_nil (fun _ _ => rfl), hF55, n49⟩)⟩)
      · skip
        refine x_iconst 32 C dX11_passesPreflight_31 rfl ?_
        exact x_iret C dX11_passesPreflight_32 rfl (Or.inl ⟨h28, rfl, rfl⟩)
    · skip
      refine x_aload_n 14 C dX11_passesPreflight_13 rfl rfl ?_
      refine x_getIv 17 1303 C fr_X11_354 dX11_passesPreflight_14 rfl rfl rfl rfl (by assumption) r3 ?_
      refine x_if_eq 20 24 C dX11_passesPreflight_17 rfl (by decide) (by first | exact hRw _ _ | assumption | exact ⟨by omega, by omega⟩ | exact hw.1 _ _ | omega) (fun h17 => ?_) (fun h17 => ?_)
      · skip
        refine x_iconst 25 C dX11_passesPreflight_24 rfl ?_
        exact hJ25 _ (by first | rw [if_pos (show R 65 0 = 0 by omega)] | rw [if_neg (show ¬ R 65 0 = 0 by omega)])
      · skip
        refine x_iconst 21 C dX11_passesPreflight_20 rfl ?_
        refine x_goto 25 C dX11_passesPreflight_21 (by decide) ?_
        exact hJ25 _ (by first | rw [if_pos (show R 65 0 = 0 by omega)] | rw [if_neg (show ¬ R 65 0 = 0 by omega)])
  · skip
    refine x_aload_n 1 C dX11_passesPreflight_0 rfl rfl ?_
    refine x_getIv 4 701 C fr_X11_353 dX11_passesPreflight_1 rfl rfl rfl rfl (by assumption) hp1 ?_
    refine x_iconst 5 C dX11_passesPreflight_4 rfl ?_
    refine x_icmp_ne 8 12 C dX11_passesPreflight_5 rfl (by decide) (by first | exact hRw _ _ | assumption | exact ⟨by omega, by omega⟩ | exact hw.1 _ _ | omega) (by first | exact hRw _ _ | assumption | exact ⟨by omega, by omega⟩ | exact hw.1 _ _ | omega) (fun h5 => ?_) (fun h5 => ?_)
    · skip
      refine x_iconst 13 C dX11_passesPreflight_12 rfl ?_
      exact hJ13 _ (by first | (rw [decide_eq_true (show R 66 0 = 2 by omega)]; rfl) | (rw [decide_eq_false (show ¬ R 66 0 = 2 by omega)]; rfl))
    · skip
      refine x_iconst 9 C dX11_passesPreflight_8 rfl ?_
      refine x_goto 13 C dX11_passesPreflight_9 (by decide) ?_
      exact hJ13 _ (by first | (rw [decide_eq_true (show R 66 0 = 2 by omega)]; rfl) | (rw [decide_eq_false (show ¬ R 66 0 = 2 by omega)]; rfl))
