/-! rows laid by program (wip/tools/genp.py) -/
def rkWho (R : RT) (a : Int) : Int := if rkOwn R (R 20 a.toNat) a = true then R 9 a.toNat else R 20 a.toNat
theorem rk_II {G : GT} {k a : Nat} {v : Int} : gI (sI G k a v) = u2 (gI G) k a v := rfl
theorem rk_IP {G : GT} {k a : Nat} {v : Option Nat} : gI (sP G k a v) = gI G := rfl
theorem rk_PI {G : GT} {k a : Nat} {v : Int} : gP (sI G k a v) = gP G := rfl
theorem rk_PP {G : GT} {k a : Nat} {v : Option Nat} : gP (sP G k a v) = u2 (gP G) k a v := rfl
theorem rkTk_own {R : RT} {a : Int} (h : rkFoh R (rkWho R a) (bI (rkOwn R (R 20 a.toNat) a)) a = true) : rStOwn R a = rkOwn R (R 20 a.toNat) a ∧ rStWho R a = rkWho R a := by
  have e : rStOwn R a = rkOwn R (R 20 a.toNat) a := by
    cases q : rkOwn R (R 20 a.toNat) a
    · unfold rkWho rkFoh at h
      rw [q, if_neg (by decide)] at h
      rw [show bI false = 0 from rfl, decide_eq_false (show ¬ ¬ (0 : Int) = 0 by decide), Bool.false_or] at h
      have h1 := of_decide_eq_true ((Bool.and_eq_true _ _).mp h).1
      unfold rkOwn at q
      unfold rStOwn
      rw [decide_eq_false (show ¬ ¬ R 6 (R 20 a.toNat).toNat = 0 from fun z => z h1), Bool.or_false]
      cases q2 : decide (R 20 a.toNat = -1)
      · rfl
      · rw [q2] at q
        cases q
    · unfold rkOwn at q
      unfold rStOwn
      cases q2 : decide (R 20 a.toNat = -1)
      · rw [q2, Bool.false_or] at q
        rw [((Bool.and_eq_true _ _).mp q).1]
        rfl
      · rfl
  refine ⟨e, ?_⟩
  unfold rStWho rkWho
  rw [e]
theorem rkTk_1 {R : RT} {a : Int} : rRf1 R a = !rkFoh R (rkWho R a) (bI (rkOwn R (R 20 a.toNat) a)) a := by
  unfold rRf1 rkFoh rkWho rOwnD
  have e : rkOwn R (R 20 a.toNat) a = (decide (R 20 a.toNat = -1) || (decide (¬ R 6 (R 20 a.toNat).toNat = 0) && decide (R 20 a.toNat = R 9 a.toNat))) := rfl
  rw [← e]
  cases q : rkOwn R (R 20 a.toNat) a
  · rw [if_neg (by decide), show bI false = 0 from rfl, decide_eq_false (show ¬ ¬ (0 : Int) = 0 by decide)]
    by_cases c : R 6 (R 20 a.toNat).toNat = 0
    · rw [decide_eq_false (show ¬ ¬ R 6 (R 20 a.toNat).toNat = 0 from fun z => z c), decide_eq_true c]
      cases rIn R (R 9 a.toNat) (R 20 a.toNat) <;> rfl
    · rw [decide_eq_true (show ¬ R 6 (R 20 a.toNat).toNat = 0 from c), decide_eq_false c]
      cases rIn R (R 9 a.toNat) (R 20 a.toNat) <;> rfl
  · rw [show bI true = 1 from rfl, decide_eq_true (show ¬ (1 : Int) = 0 by decide)]
    rfl
theorem rkTk_b2 : ∀ h1 Z h32 D K h2 h16 S B : Bool, ((if h1 = true then Z else (!K || (h2 || (h16 || h32)))) || (((h32 && D) || ((K && S) || (!h2 && (B && S)))))) = ((if h1 = true then (Z || (h32 && D)) else (!K || (h2 || (h16 || h32)))) || (S && (K || (B && !h2)))) := by decide
theorem rkTk_b3 {F A C U V X : Bool} (h : (A || C) = (U || V)) : (F || (A || (C || X))) = (F || (U || (V || X))) := by rw [← Bool.or_assoc A, h, Bool.or_assoc]
theorem rkTk_ref {R : RT} {a w : Int} : rRefuses R a w = (!rkFoh R (rkWho R a) (bI (rkOwn R (R 20 a.toNat) a)) a || (rkUns R (R 22 a.toNat) (R 21 a.toNat) (R 20 a.toNat) a || (rkFar (R 2 0) (R 22 a.toNat) (R 68 0) (bI (decide (R 62 0 = 2))) || (decide (R 8 a.toNat = 0) && rkBr R (R 18 a.toNat) (R 21 a.toNat) (rkWho R a) w (R 34 0).toNat)))) := by
  have e4 : rRf4 R a w = (decide (R 8 a.toNat = 0) && rkBr R (R 18 a.toNat) (R 21 a.toNat) (rkWho R a) w (R 34 0).toNat) := by
    unfold rRf4 rBar
    rw [rBarF_rk]
    rfl
  have e2 : decide (bI (decide (R 62 0 = 2)) = 0) = decide (¬ R 62 0 = 2) := by
    by_cases c : R 62 0 = 2
    · rw [decide_eq_true c, decide_eq_false (show ¬ ¬ R 62 0 = 2 from fun z => z c)]
      rfl
    · rw [decide_eq_false c, decide_eq_true (show ¬ R 62 0 = 2 from c)]
      rfl
  unfold rRefuses
  rw [rkTk_1, e4]
  unfold rRf2 rRf3 rkUns rkFar rStrg
  rw [rKind_t, e2]
  exact rkTk_b3 (rkTk_b2 (rHas (R 22 a.toNat) 1) (decide (R 8 a.toNat = 0)) (rHas (R 22 a.toNat) 32) (decide (¬ R 20 a.toNat = -1) || decide (¬ R 21 a.toNat = 0)) (rHas (R 22 a.toNat) 4 || rHas (R 22 a.toNat) 8) (rHas (R 22 a.toNat) 2) (rHas (R 22 a.toNat) 16) (decide (¬ R 68 0 = 0) && decide (¬ R 62 0 = 2)) (decide (¬ R 2 0 = 0)))
theorem rkCo_new {G : GT} {B : Nat → Nat} {R : RT} {x c : Nat} {a w : Int} (hB : rkB G B) (hx : gK G x = 0) (hL : rkLn G B R a c) : rkCo (rkNewC G B R x c (R 22 a.toNat) (R 23 a.toNat) (R 20 a.toNat) a (rkPm w) (R 0 0)) B x (R 18 a.toNat) (R 19 a.toNat) (R 21 a.toNat) (R 22 a.toNat) (R 23 a.toNat) (rkWho R a) (bI (rkOwn R (R 20 a.toNat) a)) (rkPm (rStWch R a w)) (R 0 0 + R 23 a.toNat) := by
  obtain ⟨l1, l2, l3, l4, l5, l6, l7⟩ := hL
  have hc : gK G c ≠ 0 := by rw [l1]; decide
  have hw : (if rHas (R 22 a.toNat) 2 = true then rkPm w else -1) = rkPm (rStWch R a w) := by
    unfold rStWch
    split <;> rfl
  unfold rkNewC
  rw [hw]
  refine ⟨nO_q, ⟨c, ?_, ?_⟩, ?_, ?_, ?_, ?_⟩
  · rw [rk_PI, rk_PI, rk_PP, rk_PI, rk_PP, u2_k (by decide), u2_s]
  · refine ⟨(nO_K hc hx).trans l1, ?_, ?_, ?_, ?_, ?_⟩ <;> (rw [rk_II, u2_k (by decide), rk_II, u2_k (by decide), rk_IP, rk_II, u2_k (by decide), rk_IP, nO_I (by decide)]; assumption)
  · rw [rk_PI, rk_PI, rk_PP, u2_s]
    rfl
  · rw [rk_II, u2_k (by decide), rk_II, u2_k (by decide), rk_IP, rk_II, u2_s]
  · rw [rk_II, u2_k (by decide), rk_II, u2_s]
  · rw [rk_II, u2_s]
set_option maxHeartbeats 2000000 in
set_option maxRecDepth 100000 in
theorem c_X6_takeL {E : EV} {l : Launch} {G : GT} {B : Nat → Nat} {R : RT} (hW : rkW G B R) {hp : Nat} {a bl ta w : Int} (hC : rkC G B R) (hJ : rkJ R) (hbl : R 2 0 = bl) (hh : rkHv G B hp a (R 66 0) ta (R 68 0) (bI (decide (R 62 0 = 2))) (rkPm w)) (h0 : 0 ≤ a ∧ a < R 7 0) (hw1 : -1 ≤ w ∧ w ≤ 31) (h10 : R 34 0 ≤ 10) (h1 : 0 ≤ R 1 0 ∧ R 1 0 ≤ 900000) (hnw : 0 ≤ R 0 0 ∧ R 0 0 ≤ 900000000) {c1 : Nat} (hln : gP G 312 (rkAt G (B 2) a) = some c1) (hL : rkLn G B R a c1) (h19 : ¬ R 19 a.toNat = -1) : MT E l yX6_take cX6_take 7 none 8 213 2 26 [.ref (B 6), .ref hp, .int (i32 bl), .int (i32 (R 0 0))] (G) (fun v G' => v = none ∧ rkFr [505, 901] [B 8] G G' ∧ rkC G' B (rSets R a w) ∧ rkJ (rSets R a w) ∧ Fs R (rSets R a w)) := by
  refine mt_of (own := RX6) (L := [some (.ref (B 6)), some (.ref hp), some (.int (i32 bl)), some (.int (i32 (R 0 0))), none, none, none]) (by decide +kernel) rfl (Nat.le_of_ble_eq_true rfl) (List.forall_mem_cons.mpr ⟨rfl, (List.forall_mem_cons.mpr ⟨rfl, (List.forall_mem_cons.mpr ⟨rfl, (List.forall_mem_cons.mpr ⟨rfl, (fun _ h => absurd h List.not_mem_nil)⟩)⟩)⟩)⟩) rfl ?_
  intro p e s m args below meth c C hin
  refine x_wf (fun hw => ?_)
  have hRC := hJ.1
  obtain ⟨hB, hH, hA, hP, hI⟩ := id hW
  obtain ⟨⟨b0, b6, b7⟩, ⟨bk1, bk2, bk3, bk4, bk5, bk8, bk9⟩, ⟨bp0, bp1, bp2, bp3, bp4, bp5, bp6, bp7, bp8⟩, -⟩ := id hB
  obtain ⟨hl1, hh1⟩ := id hH
  obtain ⟨hl2, hh2⟩ := id hA
  obtain ⟨hl3, hh3⟩ := id hP
  obtain ⟨iH, iA, iAd, iHl, iP, iS, hRw, iU⟩ := id hI
  have iH1 := iH.1
  have iA1 := iA.1
  have iA2 := iA.2
  have iP1 := iP.1
  obtain ⟨hl8, hh8, hij8, hor8, hlu8, hub8⟩ := id hC
  have iC1 := hRC.1
  have hbr : InR bl := by (rw [← hbl]; exact hRw _ _)
  obtain ⟨hk, hp0, hp1, hp2, hp3, hp4, hp5⟩ := id hh
  obtain ⟨⟨a1, a2, a3, a4, a5, a6⟩, -⟩ := hh2 a h0.1 h0.2
  obtain ⟨l1, l2, l3, l4, l5, l6, l7⟩ := id hL
  obtain ⟨d1, d2, d3, d4, d5, d6, d7, d8⟩ := iAd a.toNat (by omega)
  obtain ⟨s1, s2, s3, s4⟩ := iS a.toNat (by omega)
  refine x_aload_n 1 C dX6_take_0 rfl rfl ?_
  refine x_getO 4 700 C fr_X6_66 dX6_take_1 rfl rfl rfl rfl (by assumption) (by assumption) ?_
  refine x_getO 7 312 C fr_X6_121 dX6_take_4 rfl rfl rfl rfl (by assumption) (by assumption) ?_
  refine x_astore 9 C dX6_take_7 rfl rfl rfl ?_
  refine x_aload 11 C dX6_take_9 rfl rfl ?_
  refine x_ifnonnull (r := some _) 14 15 C dX6_take_11 rfl (by decide) (fun _ _ => ?_) (fun z => by cases z)
  refine x_new (kc0 := 1) (ks0 := 20) 18 5 C nwd_X6_26 rfl rfl dX6_take_15 rfl ⟨by omega, by omega⟩ (fun q15 hq15 => ?_)
  refine x_dup 19 C dX6_take_18 rfl rfl ?_
  refine x_aload 21 C dX6_take_19 rfl rfl ?_
  refine x_aload_n 22 C dX6_take_21 rfl rfl ?_
  refine x_iload_n 23 C dX6_take_22 rfl rfl ?_
  refine x_callI (As := [_, _, _]) 26 1 20 C vw_X6_122 iw_X2_init rfl (c_X2_init hW hq15 l1 l4 l5 l6 l7 hh h0 ⟨d8.1, d8.2⟩ ⟨hnw.1, by omega⟩ s4) dX6_take_23 rfl rfl rfl ⟨Nat.le_of_ble_eq_true rfl, Nat.le_of_ble_eq_true rfl⟩ (Nat.le_of_ble_eq_true rfl) ⟨Nat.le_refl _, Nat.le_refl _⟩ (fun v G' hq => ?_)
  obtain ⟨rfl, hG9⟩ := hq
  replace hG9 := hG9.symm
  subst hG9
  obtain ⟨G1, hG1⟩ : ∃ G1 : GT, G1 = rkNewC G B R q15 c1 (R 22 a.toNat) (R 23 a.toNat) (R 20 a.toNat) a (rkPm w) (R 0 0) := ⟨_, rfl⟩
  refine x_as (G' := G1) hG1 rfl rfl ?_
  have hF0 : rkFr [] [] G G1 := by (rw [hG1]; exact fr_sIq hq15 (fr_sIq hq15 (fr_sPq hq15 (by decide) (fr_sIq hq15 (fr_sPq hq15 (by decide) (fr_nO hq15 (by decide) fr_rfl))))))
  have hW1 := rkW_fr hW hF0 (fun k z => by cases z) ⟨List.not_mem_nil, List.not_mem_nil, List.not_mem_nil⟩ (fun x z => by cases z)
  have hC1 := rkC_fr hB hC hF0 (fun k z => by cases z) List.not_mem_nil List.not_mem_nil
  have hyy := rkCo_new (w := w) hB hq15 hL
  rw [← hG1] at hyy
  have hhv := rkHv_fr hh hF0 (fun k z => by cases z) (hF0.2.2.1 (B 2) (by omega) List.not_mem_nil)
  have b6b := hW1.1.1.2.1
  have hc1n : gK G c1 ≠ 0 := by (rw [l1]; decide)
  have l1b : gK G1 c1 = 6 := (hF0.1 c1 hc1n).trans l1
  have l4b : gP G1 602 c1 = rkOp G1 (B 1) (R 20 a.toNat) := ((hF0.2.1 602 c1 hc1n List.not_mem_nil).2.trans l4).trans (rkOp_same (hF0.2.2.1 (B 1) (by omega) List.not_mem_nil) _).symm
  have l5b := (hF0.2.1 603 c1 hc1n List.not_mem_nil).1.trans l5
  have l6b := (hF0.2.1 604 c1 hc1n List.not_mem_nil).1.trans l6
  have l7b := (hF0.2.1 605 c1 hc1n List.not_mem_nil).1.trans l7
  have hwho : 0 ≤ rkWho R a ∧ rkWho R a < R 3 0 := by (unfold rkWho; split; exact ⟨by omega, by omega⟩; exact (if c : R 20 a.toNat = -1 then absurd (show rkOwn R (R 20 a.toNat) a = true by (unfold rkOwn; rw [decide_eq_true c]; rfl)) (by assumption) else ⟨by omega, by omega⟩))
  have hwc : -1 ≤ rStWch R a w ∧ rStWch R a w ≤ 31 := by (unfold rStWch; split; exact hw1; exact ⟨by omega, by omega⟩)
  refine x_astore 28 C dX6_take_26 rfl rfl rfl ?_
  refine x_aload 30 C dX6_take_28 rfl rfl ?_
  refine x_aload_n 31 C dX6_take_30 rfl rfl ?_
  refine x_callS (As := [_, _]) 34 1 20 C vw_X6_125 tw_X6_isForOwnHost (c_X6_isForOwnHost hW1 hyy hhv h0 hwho) dX6_take_31 rfl rfl rfl ⟨Nat.le_of_ble_eq_true rfl, Nat.le_of_ble_eq_true rfl⟩ (Nat.le_of_ble_eq_true rfl) ⟨Nat.le_refl _, Nat.le_refl _⟩ (fun v G' hq => ?_)
  obtain ⟨rfl, hG9⟩ := hq
  replace hG9 := hG9.symm
  subst hG9
  refine x_as rfl rfl rfl ?_
  refine x_if_eqB 37 66 C dX6_take_34 rfl (by decide) (fun h34 => ?_) (fun h34 => ?_)
  · skip
    exact x_ret C dX6_take_66 ⟨rfl, fr_wide hF0 (fun k z => by cases z) (fun k z => by cases z), by (have hS : rSets R a w = R := if_pos (Or.inr (by rw [rkTk_ref, hbl]; rw [h34]; rfl)); rw [hS]; exact ⟨hC1, hJ, Fs.refl⟩)⟩
  · skip
    have hown := rkTk_own h34
    refine x_aload 39 C dX6_take_37 rfl rfl ?_
    refine x_aload_n 40 C dX6_take_39 rfl rfl ?_
    refine x_callS (As := [_, _]) 43 1 20 C vw_X6_129 tw_X6_isUnsafe (c_X6_isUnsafe hW1 l1b l4b l5b l6b l7b hhv h0) dX6_take_40 rfl rfl rfl ⟨Nat.le_of_ble_eq_true rfl, Nat.le_of_ble_eq_true rfl⟩ (Nat.le_of_ble_eq_true rfl) ⟨Nat.le_refl _, Nat.le_refl _⟩ (fun v G' hq => ?_)
    obtain ⟨rfl, hG9⟩ := hq
    replace hG9 := hG9.symm
    subst hG9
    refine x_as rfl rfl rfl ?_
    refine x_if_neB 46 66 C dX6_take_43 rfl (by decide) (fun h43 => ?_) (fun h43 => ?_)
    · skip
      exact x_ret C dX6_take_66 ⟨rfl, fr_wide hF0 (fun k z => by cases z) (fun k z => by cases z), by (have hS : rSets R a w = R := if_pos (Or.inr (by rw [rkTk_ref, hbl]; rw [h43, Bool.true_or, Bool.or_true])); rw [hS]; exact ⟨hC1, hJ, Fs.refl⟩)⟩
    · skip
      refine x_aload 48 C dX6_take_46 rfl rfl ?_
      refine x_aload_n 49 C dX6_take_48 rfl rfl ?_
      refine x_iload_n 50 C dX6_take_49 rfl rfl ?_
      refine x_callS (As := [_, _, _]) 53 1 20 C vw_X6_133 tw_X6_isTooFar (c_X6_isTooFar (B := B) hbr l1b l6b hhv) dX6_take_50 rfl rfl rfl ⟨Nat.le_of_ble_eq_true rfl, Nat.le_of_ble_eq_true rfl⟩ (Nat.le_of_ble_eq_true rfl) ⟨Nat.le_refl _, Nat.le_refl _⟩ (fun v G' hq => ?_)
      obtain ⟨rfl, hG9⟩ := hq
      replace hG9 := hG9.symm
      subst hG9
      refine x_as rfl rfl rfl ?_
      refine x_if_neB 56 66 C dX6_take_53 rfl (by decide) (fun h53 => ?_) (fun h53 => ?_)
      · skip
        exact x_ret C dX6_take_66 ⟨rfl, fr_wide hF0 (fun k z => by cases z) (fun k z => by cases z), by (have hS : rSets R a w = R := if_pos (Or.inr (by rw [rkTk_ref, hbl]; rw [h53, Bool.true_or, Bool.or_true, Bool.or_true])); rw [hS]; exact ⟨hC1, hJ, Fs.refl⟩)⟩
      · skip
        refine x_aload_n 57 C dX6_take_56 rfl rfl ?_
        refine x_aload 59 C dX6_take_57 rfl rfl ?_
        refine x_aload_n 60 C dX6_take_59 rfl rfl ?_
        refine x_callV (As := [_, _]) 63 9 1 20 C vw_X6_137 iw_X6_isUnderSecureOne sw_X6_isUnderSecureOne (c_X6_isUnderSecureOne hW1 hC1 hRC hyy hhv h0 hwho s3 hw1) dX6_take_60 rfl rfl rfl rfl rfl rfl b6b ⟨Nat.le_of_ble_eq_true rfl, Nat.le_of_ble_eq_true rfl⟩ (Nat.le_of_ble_eq_true rfl) ⟨Nat.le_refl _, Nat.le_refl _⟩ (fun v G' hq => ?_)
        obtain ⟨rfl, hG9⟩ := hq
        replace hG9 := hG9.symm
        subst hG9
        refine x_as rfl rfl rfl ?_
        refine x_if_eqB 66 67 C dX6_take_63 rfl (by decide) (fun h63 => ?_) (fun h63 => ?_)
        · skip
          have hnr : rRefuses R a w = false := by (rw [rkTk_ref, hbl, h34, h43, h53, h63]; rfl)
          have hnc : ¬ (R 19 a.toNat = -1 ∨ rRefuses R a w = true) := fun z => z.elim h19 (fun z2 => by rw [hnr] at z2; cases z2)
          have hpp : rkSf R (R 18 a.toNat) (rkWho R a) (R 21 a.toNat) (rStWch R a w) (R 34 0).toNat = rStFd R a w := by (rw [← hown.2]; exact (rStF_rk _).symm)
          have hsf := rStF_in R a (rStWho R a) (rStWch R a w) (R 34 0).toNat
          have hp9 : -1 ≤ rStFd R a w ∧ rStFd R a w < R 34 0 := ⟨hsf.1, by (have h8 := hsf.2; show rStF R a (rStWho R a) (rStWch R a w) (R 34 0).toNat < R 34 0; omega)⟩
          refine x_aload_n 68 C dX6_take_67 rfl rfl ?_
          refine x_aload 70 C dX6_take_68 rfl rfl ?_
          refine x_callV (As := [_]) 73 9 1 20 C vw_X6_140 iw_X6_placeOfSame sw_X6_placeOfSame (c_X6_placeOfSame hW1 hC1 hRC hJ.2.2.1 hyy hwho hwc) dX6_take_70 rfl rfl rfl rfl rfl rfl b6b ⟨Nat.le_of_ble_eq_true rfl, Nat.le_of_ble_eq_true rfl⟩ (Nat.le_of_ble_eq_true rfl) ⟨Nat.le_refl _, Nat.le_refl _⟩ (fun v G' hq => ?_)
          obtain ⟨rfl, hG9⟩ := hq
          replace hG9 := hG9.symm
          subst hG9
          refine x_as rfl rfl rfl ?_
          rw [hpp]
          refine x_istore 75 C dX6_take_73 rfl rfl rfl ?_
          refine x_aload 77 C dX6_take_75 rfl rfl ?_
          refine x_getIv 80 605 C fr_X6_144 dX6_take_77 rfl rfl rfl rfl (by assumption) (by first | assumption | rfl) ?_
          refine x_iconst 81 C dX6_take_80 rfl ?_
          refine x_icmp_ne 84 91 C dX6_take_81 rfl (by decide) (by first | exact hRw _ _ | assumption | exact ⟨by omega, by omega⟩ | exact hw.1 _ _ | omega) (by first | exact hRw _ _ | assumption | exact ⟨by omega, by omega⟩ | exact hw.1 _ _ | omega) (fun h81 => ?_) (fun h81 => ?_)
          · skip
            refine x_aload_n 92 C dX6_take_91 rfl rfl ?_
            refine x_aload 94 C dX6_take_92 rfl rfl ?_
            refine x_iload 96 C dX6_take_94 rfl rfl ?_
            refine x_callV (As := [_, _]) 99 9 0 0 C vw_X6_151 iw_X6_put sw_X6_put (c_X6_put hW1 hC1 hRC hyy.1 hp9 (by have := hC1.2.2.2.2.1; omega)) dX6_take_96 rfl rfl rfl rfl rfl rfl b6b ⟨Nat.le_of_ble_eq_true rfl, Nat.le_of_ble_eq_true rfl⟩ (Nat.le_of_ble_eq_true rfl) ⟨by omega, by omega⟩ (fun v G' hq => ?_)
            obtain ⟨rfl, hG9⟩ := hq
            replace hG9 := hG9.symm
            subst hG9
            obtain ⟨G2, hG2⟩ : ∃ G2 : GT, G2 = sL (sI (sI G1 901 (B 6) (gI G1 901 (B 6) + 1)) 505 q15 (gI G1 901 (B 6) + 1)) (B 8) (if rStFd R a w = -1 then gL G1 (B 8) ++ [q15] else (gL G1 (B 8)).set (rStFd R a w).toNat q15) := ⟨_, rfl⟩
            refine x_as (G' := G2) hG2 rfl rfl ?_
            have hF2 : rkFr [505, 901] [B 8] G1 G2 := by (rw [hG2]; exact fr_sL List.mem_cons_self (fr_sI (by decide) (by decide) (fr_sI (by decide) (by decide) fr_rfl)))
            have hF02 : rkFr [505, 901] [B 8] G G2 := fr_tr (fr_wide hF0 (fun k z => by cases z) (fun k z => by cases z)) hF2
            have hJ2 : rkJ (rSt1 R a w) := rkJ_st hJ (fun i i0 i1 => (hub8 i i0 i1).2) iA iAd iS h0 h19 h10 hw1 ⟨hnw.1, by omega⟩ (by omega)
            have hW2 : rkW G2 B (rSt1 R a w) := rkW_R (rkW_fr hW1 hF2 (fun k z => by simp at z; rcases z with rfl | rfl <;> rfl) ⟨by simpa using hB.2.2.2.2.2.2.2.1, by simpa using hB.2.2.2.2.2.2.2.2.2.2.2.2.1, by simpa using hB.2.2.2.2.2.2.2.2.2.2.2.2.2.2.2.2.1⟩ (fun x z => by (have z2 := List.mem_singleton.mp z; have z3 := hW1.1.2.1.2.2.2.2.2.1; rw [z2]; omega))) rSt1_Fs hJ2.2.2.2
            have b6c := hW2.1.1.2.1
            have k8c := hW2.1.2.1.2.2.2.2.2.1
            have hl1c : gL G2 (B 1) = gL G1 (B 1) := hF2.2.2.1 (B 1) (by have := hW1.1.2.1.1; omega) (by simpa using hB.2.2.2.2.2.2.2.1)
            have hyy2 := rkCo_fr hyy hF2 (fun k z => by simp at z; rcases z with rfl | rfl; exact Or.inr (Or.inl rfl); exact Or.inr (Or.inr rfl)) hl1c
            have hat := rkAt_put (b := B 8) hC1.1 hp9 (show gL G2 (B 8) = _ by (rw [hG2, sL_s]))
            have e8b := hF0.2.2.1 (B 8) (by omega) List.not_mem_nil
            have h43o : rSt1 R a w 34 0 = if rStFd R a w = -1 then R 34 0 + 1 else R 34 0 := rSt1_34
            have hstI : rStI R a w = if rStFd R a w = -1 then R 34 0 else rStFd R a w := rfl
            have hst := rStI_in (a := a) (w := w) hRC
            have hsat := rSt1_at (R := R) (a := a) (w := w)
            have hne5 : ∀ y, gK G y ≠ 0 → y ≠ q15 := fun y hy => fr_ne hy hq15
            have e901 := (hF0.2.1 901 (B 6) (by omega) List.not_mem_nil).1
            have hC2 : rkC G2 B (rSt1 R a w) := rkC_put (x := q15) (i := rStI R a w) hB hC hF02 hq15 ⟨hst.1, by (rw [h43o, hstI]; split <;> omega)⟩ (by rw [h43o]; exact hat.1) (fun j j0 j1 => by (rw [h43o] at j1; rw [hat.2 j j0 j1, hstI, rkAt_same e8b])) (fun j j0 j1 jn => rSt1_lt hRC j0 j1 jn) (by (rw [← e901, hG2]; show u2 (u2 (gI G1) 901 (B 6) (gI G1 901 (B 6) + 1)) 505 q15 (gI G1 901 (B 6) + 1) 901 (B 6) = _; rw [u2_k (by decide), u2_s])) (by (rw [← e901, hG2]; show u2 (u2 (gI G1) 901 (B 6) (gI G1 901 (B 6) + 1)) 505 q15 (gI G1 901 (B 6) + 1) 505 q15 = _; rw [u2_s])) (fun y hy => by (rw [hG2]; show u2 (u2 (gI G1) 901 (B 6) (gI G1 901 (B 6) + 1)) 505 q15 (gI G1 901 (B 6) + 1) 505 y = _; rw [u2_a (hne5 y hy), u2_k (by decide)]; exact (hF0.2.1 505 y hy List.not_mem_nil).1)) (fun f f1 f2 j jn => rSt1_o f j ⟨by omega, Or.inr (Or.inr jn), Or.inl (by omega)⟩) hsat.2.2.2.2.2.2.2.2 rSt1_1 (by (refine ⟨R 23 a.toNat, R 0 0 + R 23 a.toNat, ?_, ?_, ?_, ?_⟩; (rw [hsat.1, hsat.2.1, hsat.2.2.1, hsat.2.2.2.1, hsat.2.2.2.2.1, hsat.2.2.2.2.2.1, hsat.2.2.2.2.2.2.1, hown.1, hown.2]; exact hyy2); (rw [hsat.2.2.2.2.2.2.2.1]; exact (if c : R 23 a.toNat = 0 then Or.inl ⟨c, if_pos c⟩ else Or.inr ⟨by omega, by omega, if_neg c, by omega⟩)); (rw [hsat.2.2.2.2.2.2.1]; exact hwc); (rw [hsat.2.2.2.1]; exact bI_01 _)))
            refine x_aload_n 100 C dX6_take_99 rfl rfl ?_
            refine x_aload 102 C dX6_take_100 rfl rfl ?_
            refine x_iconst 103 C dX6_take_102 rfl ?_
            refine x_callV (As := [_, _]) 106 9 0 0 C vw_X6_155 iw_X6_trim sw_X6_trim (c_X6_trimY hW2 hC2 hJ2 hyy2 (by rw [rSt1_Fs 3 (by decide) (by decide)]; exact hwho) hwc) dX6_take_103 rfl rfl rfl rfl rfl rfl b6c ⟨Nat.le_of_ble_eq_true rfl, Nat.le_of_ble_eq_true rfl⟩ (Nat.le_of_ble_eq_true rfl) ⟨Nat.le_refl _, Nat.le_refl _⟩ (fun v G' hq => ?_)
            obtain ⟨rfl, S, hS, hF3, hC3, hJ3, hFs3, hFd3, h13⟩ := hq
            obtain ⟨G3, hG3⟩ : ∃ z, z = G' := ⟨_, rfl⟩
            subst hG3
            have hW3 : rkW G3 B S := rkW_R (rkW_fr hW2 hF3 (fun k z => by cases z) ⟨by simpa using hB.2.2.2.2.2.2.2.1, by simpa using hB.2.2.2.2.2.2.2.2.2.2.2.2.1, by simpa using hB.2.2.2.2.2.2.2.2.2.2.2.2.2.2.2.2.1⟩ (fun x z => by (have z2 := List.mem_singleton.mp z; rw [z2, k8c]; decide))) hFs3 hJ3.2.2.2
            have b6d := hW3.1.1.2.1
            refine x_as rfl rfl rfl ?_
            refine x_aload_n 107 C dX6_take_106 rfl rfl ?_
            refine x_null 108 C dX6_take_107 rfl ?_
            refine x_bipush 110 C dX6_take_108 rfl (by decide) ?_
            refine x_callV (As := [_, _]) 113 9 0 0 C vw_X6_155 iw_X6_trim sw_X6_trim (c_X6_trimN hW3 hC3 hJ3 (si := rSiteOf R (rStWho R a)) (w := rStWch R a w)) dX6_take_110 rfl rfl rfl rfl rfl rfl b6d ⟨Nat.le_of_ble_eq_true rfl, Nat.le_of_ble_eq_true rfl⟩ (Nat.le_of_ble_eq_true rfl) ⟨Nat.le_refl _, Nat.le_refl _⟩ (fun v G' hq => ?_)
            obtain ⟨rfl, S4, hS4, hF4, hC4, hJ4, hFs4, hFd4, h14⟩ := hq
            refine x_as rfl rfl rfl ?_
            exact x_ret C dX6_take_113 (by have hge : ¬ R 23 a.toNat < 0 := (by omega); have hS5 : rSets R a w = S4 := (by (refine (if_neg hnc).trans ((if_neg hge).trans ?_); rw [hS4, hS, rkTr_1, rSt1_Fs.site, hown.2]; have h34 : 0 ≤ S 34 0 := hJ3.1.1.1; rw [hS, rkTr_1, rSt1_Fs.site] at h34; rw [rkTr_2 _ _ h34]; rfl)); rw [hS5]; exact ⟨rfl, fr_tr hF02 (fr_tr (fr_wide hF3 (fun k z => by cases z) (fun k z => z)) (fr_wide hF4 (fun k z => by cases z) (fun k z => z))), hC4, hJ4, (rSt1_Fs.trans hFs3).trans hFs4⟩)
          · skip
            refine x_aload_n 85 C dX6_take_84 rfl rfl ?_
            refine x_iload 87 C dX6_take_85 rfl rfl ?_
            refine x_callV (As := [_]) 90 9 1 20 C vw_X6_147 iw_X6_removeAt sw_X6_removeAt (c_X6_removeAt hW1 hC1 hRC hp9) dX6_take_87 rfl rfl rfl rfl rfl rfl b6b ⟨Nat.le_of_ble_eq_true rfl, Nat.le_of_ble_eq_true rfl⟩ (Nat.le_of_ble_eq_true rfl) ⟨Nat.le_refl _, Nat.le_refl _⟩ (fun v G' hq => ?_)
            obtain ⟨rfl, hG9⟩ := hq
            replace hG9 := hG9.symm
            subst hG9
            obtain ⟨G5, hG5⟩ : ∃ G5 : GT, G5 = (if rStFd R a w = -1 then G1 else sL G1 (B 8) ((gL G1 (B 8)).eraseIdx (rStFd R a w).toNat)) := ⟨_, rfl⟩
            refine x_as (G' := G5) hG5 rfl rfl ?_
            exact x_ret C dX6_take_90 (by have hlt : R 23 a.toNat < 0 := (by omega); exact (if c : rStFd R a w = -1 then (by (have hS : rSets R a w = R := (if_neg hnc).trans ((if_pos hlt).trans (if_pos c)); rw [if_pos c] at hG5; rw [hS, hG5]; exact ⟨rfl, fr_wide hF0 (fun k z => by cases z) (fun k z => by cases z), hC1, hJ, Fs.refl⟩)) else (by (have hS : rSets R a w = rDrops R (rStFd R a w) := (if_neg hnc).trans ((if_pos hlt).trans (if_neg c)); rw [if_neg c] at hG5; rw [hS, hG5]; exact ⟨rfl, fr_sL List.mem_cons_self (fr_wide hF0 (fun k z => by cases z) (fun k z => by cases z)), rkC_drop hW1.1 hC1 ⟨by omega, hp9.2⟩ (fr_sL List.mem_cons_self fr_rfl) sL_s, rkJ_drop hJ ⟨by omega, hp9.2⟩, rDrops_Fs⟩)))) 
        · skip
          exact x_ret C dX6_take_66 ⟨rfl, fr_wide hF0 (fun k z => by cases z) (fun k z => by cases z), by (have hS : rSets R a w = R := if_pos (Or.inr (by rw [rkTk_ref, hbl]; rw [h63, Bool.or_true, Bool.or_true, Bool.or_true])); rw [hS]; exact ⟨hC1, hJ, Fs.refl⟩)⟩
set_option maxHeartbeats 2000000 in
set_option maxRecDepth 100000 in
theorem c_X6_takeN {E : EV} {l : Launch} {G : GT} {B : Nat → Nat} {R : RT} (hW : rkW G B R) {hp : Nat} {a bl ta w : Int} (hC : rkC G B R) (hJ : rkJ R) (hbl : R 2 0 = bl) (hh : rkHv G B hp a (R 66 0) ta (R 68 0) (bI (decide (R 62 0 = 2))) (rkPm w)) (h0 : 0 ≤ a ∧ a < R 7 0) (hw1 : -1 ≤ w ∧ w ≤ 31) (h10 : R 34 0 ≤ 10) (h1 : 0 ≤ R 1 0 ∧ R 1 0 ≤ 900000) (hnw : 0 ≤ R 0 0 ∧ R 0 0 ≤ 900000000) (hln : gP G 312 (rkAt G (B 2) a) = none) (h19 : R 19 a.toNat = -1) : MT E l yX6_take cX6_take 7 none 8 213 2 26 [.ref (B 6), .ref hp, .int (i32 bl), .int (i32 (R 0 0))] (G) (fun v G' => v = none ∧ rkFr [505, 901] [B 8] G G' ∧ rkC G' B (rSets R a w) ∧ rkJ (rSets R a w) ∧ Fs R (rSets R a w)) := by
  refine mt_of (own := RX6) (L := [some (.ref (B 6)), some (.ref hp), some (.int (i32 bl)), some (.int (i32 (R 0 0))), none, none, none]) (by decide +kernel) rfl (Nat.le_of_ble_eq_true rfl) (List.forall_mem_cons.mpr ⟨rfl, (List.forall_mem_cons.mpr ⟨rfl, (List.forall_mem_cons.mpr ⟨rfl, (List.forall_mem_cons.mpr ⟨rfl, (fun _ h => absurd h List.not_mem_nil)⟩)⟩)⟩)⟩) rfl ?_
  intro p e s m args below meth c C hin
  refine x_wf (fun hw => ?_)
  have hRC := hJ.1
  obtain ⟨hB, hH, hA, hP, hI⟩ := id hW
  obtain ⟨⟨b0, b6, b7⟩, ⟨bk1, bk2, bk3, bk4, bk5, bk8, bk9⟩, ⟨bp0, bp1, bp2, bp3, bp4, bp5, bp6, bp7, bp8⟩, -⟩ := id hB
  obtain ⟨hl1, hh1⟩ := id hH
  obtain ⟨hl2, hh2⟩ := id hA
  obtain ⟨hl3, hh3⟩ := id hP
  obtain ⟨iH, iA, iAd, iHl, iP, iS, hRw, iU⟩ := id hI
  have iH1 := iH.1
  have iA1 := iA.1
  have iA2 := iA.2
  have iP1 := iP.1
  obtain ⟨hl8, hh8, hij8, hor8, hlu8, hub8⟩ := id hC
  have iC1 := hRC.1
  have hbr : InR bl := by (rw [← hbl]; exact hRw _ _)
  obtain ⟨hk, hp0, hp1, hp2, hp3, hp4, hp5⟩ := id hh
  obtain ⟨⟨a1, a2, a3, a4, a5, a6⟩, -⟩ := hh2 a h0.1 h0.2
  refine x_aload_n 1 C dX6_take_0 rfl rfl ?_
  refine x_getO 4 700 C fr_X6_66 dX6_take_1 rfl rfl rfl rfl (by assumption) (by assumption) ?_
  refine x_getPv 7 312 C fr_X6_121 dX6_take_4 rfl rfl rfl rfl (by assumption) (by first | assumption | rfl) ?_
  refine x_astoreq 9 C dX6_take_7 rfl rfl rfl ?_
  refine x_aloadq 11 C dX6_take_9 rfl rfl ?_
  refine x_ifnonnull 14 15 C dX6_take_11 rfl (by decide) (fun _ z => by cases z) (fun _ => ?_)
  exact x_ret C dX6_take_14 ⟨rfl, fr_rfl, by (have hS : rSets R a w = R := if_pos (Or.inl h19); rw [hS]; exact ⟨hC, hJ, Fs.refl⟩)⟩
theorem c_X6_take {E : EV} {l : Launch} {G : GT} {B : Nat → Nat} {R : RT} (hW : rkW G B R) {hp : Nat} {a bl ta w : Int} (hC : rkC G B R) (hJ : rkJ R) (hbl : R 2 0 = bl) (hh : rkHv G B hp a (R 66 0) ta (R 68 0) (bI (decide (R 62 0 = 2))) (rkPm w)) (h0 : 0 ≤ a ∧ a < R 7 0) (hw1 : -1 ≤ w ∧ w ≤ 31) (h10 : R 34 0 ≤ 10) (h1 : 0 ≤ R 1 0 ∧ R 1 0 ≤ 900000) (hnw : 0 ≤ R 0 0 ∧ R 0 0 ≤ 900000000)  : MT E l yX6_take cX6_take 7 none 8 213 2 26 [.ref (B 6), .ref hp, .int (i32 bl), .int (i32 (R 0 0))] (G) (fun v G' => v = none ∧ rkFr [505, 901] [B 8] G G' ∧ rkC G' B (rSets R a w) ∧ rkJ (rSets R a w) ∧ Fs R (rSets R a w)) := by
  rcases (hW.2.2.1.2 a h0.1 h0.2).2.2.2 with ⟨h19, hln⟩ | ⟨h19, c1, hln, hL⟩
  · exact c_X6_takeN hW hC hJ hbl hh h0 hw1 h10 h1 hnw hln h19
  · exact c_X6_takeL hW hC hJ hbl hh h0 hw1 h10 h1 hnw hln hL h19
