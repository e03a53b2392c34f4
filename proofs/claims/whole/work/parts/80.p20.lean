/-! rows laid by program (wip/tools/genp.py) -/
theorem rkMx_no {R : RT} {md a pg : Int} (h : rkMx R md a pg = false) : rkUm R md a pg = a := if_neg (fun z => by rw [h] at z; exact absurd z.2.1 (by decide))
def rkFw (G : GT) (rq hp : Nat) (T M : Prop) [Decidable T] [Decidable M] : GT := if M then sI (if T then sI (sI G 711 hp 1) 1306 rq 1 else sI G 711 hp 1) 1305 rq 0 else (if T then sI (sI G 711 hp 1) 1306 rq 1 else sI G 711 hp 1)
set_option maxHeartbeats 2000000 in
set_option maxRecDepth 100000 in
theorem c_X10_init {E : EV} {l : Launch} {G : GT} {B : Nat → Nat} {R : RT} (hW : rkW G B R) {x : Nat} {pg me md cr hd : Int} (hk13 : gK G x = 13) (h61 : 0 ≤ pg ∧ pg < R 24 0) (h6 : gI G 1306 x = 0) (hm : InR me) (hmd : InR md) (hc : InR cr) (hhd : hd = 0 ∨ hd = 1) : MT E l yX10_init cX10_init 6 none 4 72 1 3 [.ref x, .ref (rkAt G (B 3) pg), .int (i32 me), .int (i32 md), .int (i32 cr), .int (i32 hd)] (G) (fun v G' => v = none ∧ ∃ q, gK G q = 0 ∧ G' = rkNewRq G x (rkAt G (B 3) pg) md cr hd me (bI (decide (¬ md = 2) && rFor R pg)) q) := by
  refine mt_of (own := RX10) (L := [some (.ref x), some (.ref (rkAt G (B 3) pg)), some (.int (i32 me)), some (.int (i32 md)), some (.int (i32 cr)), some (.int (i32 hd))]) (by decide +kernel) rfl (Nat.le_of_ble_eq_true rfl) (List.forall_mem_cons.mpr ⟨rfl, (List.forall_mem_cons.mpr ⟨rfl, (List.forall_mem_cons.mpr ⟨rfl, (List.forall_mem_cons.mpr ⟨rfl, (List.forall_mem_cons.mpr ⟨rfl, (List.forall_mem_cons.mpr ⟨rfl, (fun _ h => absurd h List.not_mem_nil)⟩)⟩)⟩)⟩)⟩)⟩) rfl ?_
  intro p e s m args below meth c C hin
  refine x_wf (fun hw => ?_)
  obtain ⟨hB, hH, hA, hP, hI⟩ := id hW
  obtain ⟨⟨b0, b6, b7⟩, ⟨bk1, bk2, bk3, bk4, bk5, bk8, bk9⟩, ⟨bp0, bp1, bp2, bp3, bp4, bp5, bp6, bp7, bp8⟩, -⟩ := id hB
  obtain ⟨hl1, hh1⟩ := id hH
  obtain ⟨hl2, hh2⟩ := id hA
  obtain ⟨hl3, hh3⟩ := id hP
  obtain ⟨iH, iA, iAd, iHl, iP, iS, hRw, iU⟩ := id hI
  have iH1 := iH.1
  have iA1 := iA.1
  have iA2 := iA.2
  have iP1 := iP.1
  obtain ⟨g1, g2, g3, g4⟩ := hh3 pg h61.1 h61.2
  refine x_aload_n 1 C dX10_init_0 rfl rfl ?_
  refine x_objInit 4 C ob_X10_3 ⟨Nat.le_of_ble_eq_true rfl, Nat.le_of_ble_eq_true rfl⟩ dX10_init_1 rfl ?_
  refine x_aload_n 5 C dX10_init_4 rfl rfl ?_
  refine x_aload_n 6 C dX10_init_5 rfl rfl ?_
  refine x_putO 9 1300 C fw_X10_9 (fun _ => hin) dX10_init_6 rfl rfl rfl rfl (by assumption) ?_
  refine x_aload_n 10 C dX10_init_9 rfl rfl ?_
  refine x_iload_n 11 C dX10_init_10 rfl rfl ?_
  refine x_putI 14 1301 C fw_X10_15 (fun _ => hin) dX10_init_11 rfl rfl rfl rfl rfl (by assumption) (by first | exact hRw _ _ | assumption | exact ⟨by omega, by omega⟩ | exact hw.1 _ _ | omega) ?_
  refine x_aload_n 15 C dX10_init_14 rfl rfl ?_
  refine x_iload 17 C dX10_init_15 rfl rfl ?_
  refine x_putI 20 1302 C fw_X10_19 (fun _ => hin) dX10_init_17 rfl rfl rfl rfl rfl (by assumption) (by first | exact hRw _ _ | assumption | exact ⟨by omega, by omega⟩ | exact hw.1 _ _ | omega) ?_
  refine x_aload_n 21 C dX10_init_20 rfl rfl ?_
  refine x_iload 23 C dX10_init_21 rfl rfl ?_
  refine x_putZ 26 1303 C fw_X10_22 (fun _ => hin) dX10_init_23 rfl rfl rfl rfl (by assumption) (by first | assumption | omega | exact bI_01 _) ?_
  refine x_aload_n 27 C dX10_init_26 rfl rfl ?_
  refine x_newL (kc0 := 0) (ks0 := 0) 34 C nwd_X10_26 vw_X10_28 iw_Jx4a65c_init_da8c8 dX10_init_27 dX10_init_30 dX10_init_31 rfl ⟨Nat.le_of_ble_eq_true rfl, Nat.le_of_ble_eq_true rfl⟩ (Nat.le_of_ble_eq_true rfl) ⟨by omega, by omega⟩ (fun q27 hq27 => ?_)
  have hk13q : gK (sL (sK (sI (sI (sI (sP G 1300 x (some (rkAt G (B 3) pg))) 1301 x md) 1302 x cr) 1303 x hd) q27 20) q27 []) x = 13 := (if_neg (fun z => by (have z2 : gK G q27 = 0 := hq27; rw [← z] at z2; omega))).trans hk13
  refine x_putO 37 1304 C fw_X10_29 (fun _ => hin) dX10_init_34 rfl rfl rfl rfl (by assumption) ?_
  refine x_aload_n 38 C dX10_init_37 rfl rfl ?_
  refine x_iload_n 39 C dX10_init_38 rfl rfl ?_
  refine x_putI 42 1305 C fw_X10_33 (fun h => by cases h) dX10_init_39 rfl rfl rfl rfl rfl (by assumption) (by first | exact hRw _ _ | assumption | exact ⟨by omega, by omega⟩ | exact hw.1 _ _ | omega) ?_
  obtain ⟨G5, hG5⟩ : ∃ G5 : GT, G5 = sI (sP (sL (sK (sI (sI (sI (sP G 1300 x (some (rkAt G (B 3) pg))) 1301 x md) 1302 x cr) 1303 x hd) q27 20) q27 []) 1304 x (some q27)) 1305 x me := ⟨_, rfl⟩
  refine x_as (G' := G5) hG5 rfl rfl ?_
  have hq0 : gK G q27 = 0 := hq27
  have hF5 : rkFr [1300, 1301, 1302, 1303, 1304, 1305] [] G G5 := by (rw [hG5]; exact fr_sI (by decide) (by decide) (fr_sP (by decide) (by decide) (fr_sLq hq0 (fr_sKq hq0 (fr_sI (by decide) (by decide) (fr_sI (by decide) (by decide) (fr_sI (by decide) (by decide) (fr_sP (by decide) (by decide) fr_rfl))))))))
  have hW5 := rkW_fr hW hF5 (by decide) ⟨List.not_mem_nil, List.not_mem_nil, List.not_mem_nil⟩ (fun x z => by cases z)
  have el3 := hF5.2.2.1 (B 3) (by omega) List.not_mem_nil
  have hk135 : gK G5 x = 13 := (hF5.1 x (by omega)).trans hk13
  have g15 := (hW5.2.2.2.1.2 pg h61.1 h61.2).1
  refine x_as rfl (by rw [← rkAt_same el3 pg]) rfl ?_
  refine x_aload_n 43 C dX10_init_42 rfl rfl ?_
  refine x_joinv 60 (fun vJ => vJ = bI (decide (¬ md = 2) && rFor R pg)) ?_ (fun hJ60 => ?_)
  · intro vJ hJ
    subst hJ
    refine x_putZ 63 1307 C fw_X10_42 (fun h => by cases h) dX10_init_60 rfl rfl rfl rfl (by assumption) (bI_01 _) ?_
    exact x_ret C dX10_init_63 ⟨rfl, q27, hq0, by rw [hG5]; rfl⟩
  · skip
    refine x_iload_n 44 C dX10_init_43 rfl rfl ?_
    refine x_iconst 45 C dX10_init_44 rfl ?_
    refine x_icmp_eq 48 59 C dX10_init_45 rfl (by decide) (by first | exact hRw _ _ | assumption | exact ⟨by omega, by omega⟩ | exact hw.1 _ _ | omega) (by first | exact hRw _ _ | assumption | exact ⟨by omega, by omega⟩ | exact hw.1 _ _ | omega) (fun h45 => ?_) (fun h45 => ?_)
    · skip
      refine x_iconst 60 C dX10_init_59 rfl ?_
      exact hJ60 _ (by first | (rw [decide_eq_false (show ¬ ¬ md = 2 by omega)]; rfl) | (rw [decide_eq_true h45, h52]; rfl))
    · skip
      refine x_aload_n 49 C dX10_init_48 rfl rfl ?_
      refine x_callV (As := []) 52 10 0 0 C vw_X10_36 iw_X7_isForeign sw_X7_isForeign (c_X7_isForeign hW5 h61) dX10_init_49 rfl rfl rfl rfl rfl rfl (by assumption) ⟨Nat.le_of_ble_eq_true rfl, Nat.le_of_ble_eq_true rfl⟩ (Nat.le_of_ble_eq_true rfl) ⟨Nat.le_refl _, Nat.le_refl _⟩ (fun v G' hq => ?_)
      obtain ⟨rfl, hG9⟩ := hq
      replace hG9 := hG9.symm
      subst hG9
      refine x_as rfl rfl rfl ?_
      refine x_if_eqB 55 59 C dX10_init_52 rfl (by decide) (fun h52 => ?_) (fun h52 => ?_)
      · skip
        refine x_iconst 60 C dX10_init_59 rfl ?_
        exact hJ60 _ (by first | (rw [decide_eq_false (show ¬ ¬ md = 2 by omega)]; rfl) | (rw [decide_eq_true h45, h52]; rfl))
      · skip
        refine x_iconst 56 C dX10_init_55 rfl ?_
        refine x_goto 60 C dX10_init_56 (by decide) ?_
        exact hJ60 _ (by first | (rw [decide_eq_false (show ¬ ¬ md = 2 by omega)]; rfl) | (rw [decide_eq_true h45, h52]; rfl))
set_option maxHeartbeats 2000000 in
set_option maxRecDepth 100000 in
theorem c_X11_unmixed {E : EV} {l : Launch} {G : GT} {B : Nat → Nat} {R : RT} (hW : rkW G B R) {rq : Nat} {pg md cr hd me ta0 af0 : Int} (hr : rkRq G B rq pg md cr hd me ta0 af0) (h61 : 0 ≤ pg ∧ pg < R 24 0) {a : Int} (h0 : 0 ≤ a ∧ a < R 7 0) : MT E l yX11_unmixed cX11_unmixed 4 (some (.object "HopRules$Address")) 4 90 0 0 [.ref (B 0), .ref rq, .ref (rkAt G (B 2) a)] (G) (pD (some (.ref (rkAt G (B 2) (rkUm R md a pg)))) (G)) := by
  refine mt_of (own := RX11) (L := [some (.ref (B 0)), some (.ref rq), some (.ref (rkAt G (B 2) a)), none]) (by decide +kernel) rfl (Nat.le_of_ble_eq_true rfl) (List.forall_mem_cons.mpr ⟨rfl, (List.forall_mem_cons.mpr ⟨rfl, (List.forall_mem_cons.mpr ⟨rfl, (fun _ h => absurd h List.not_mem_nil)⟩)⟩)⟩) rfl ?_
  intro p e s m args below meth c C hin
  refine x_wf (fun hw => ?_)
  obtain ⟨hB, hH, hA, hP, hI⟩ := id hW
  obtain ⟨⟨b0, b6, b7⟩, ⟨bk1, bk2, bk3, bk4, bk5, bk8, bk9⟩, ⟨bp0, bp1, bp2, bp3, bp4, bp5, bp6, bp7, bp8⟩, -⟩ := id hB
  obtain ⟨hl1, hh1⟩ := id hH
  obtain ⟨hl2, hh2⟩ := id hA
  obtain ⟨hl3, hh3⟩ := id hP
  obtain ⟨iH, iA, iAd, iHl, iP, iS, hRw, iU⟩ := id hI
  have iH1 := iH.1
  have iA1 := iA.1
  have iA2 := iA.2
  have iP1 := iP.1
  obtain ⟨rk, r0, r1, r2, r3, r5, r6, r7⟩ := id hr
  have rmd : InR md := by (rw [← r1]; exact hw.1 _ _)
  have rcr : InR cr := by (rw [← r2]; exact hw.1 _ _)
  have rhd : InR hd := by (rw [← r3]; exact hw.1 _ _)
  have rm5 : InR me := by (rw [← r5]; exact hw.1 _ _)
  have rt6 : InR ta0 := by (rw [← r6]; exact hw.1 _ _)
  have rf7 : InR af0 := by (rw [← r7]; exact hw.1 _ _)
  obtain ⟨g1, g2, g3, g4⟩ := hh3 pg h61.1 h61.2
  obtain ⟨u1, u2, u3⟩ := iP.2 pg.toNat (by omega)
  obtain ⟨⟨m1, m2, m3, m4, m5, m6⟩, -⟩ := hh2 (R 25 pg.toNat) u1.1 u1.2
  obtain ⟨⟨a1, a2, a3, a4, a5, a6⟩, -⟩ := hh2 a h0.1 h0.2
  obtain ⟨d1, d2, -⟩ := iAd a.toNat (by omega)
  have hff := rFind_in R 1 (R 9 a.toNat) (R 10 a.toNat) (R 11 a.toNat) (R 7 0).toNat
  have hf0 : -1 ≤ rFnd R 1 (R 9 a.toNat) (R 10 a.toNat) (R 11 a.toNat) := hff.1
  refine x_aload_n 1 C dX11_unmixed_0 rfl rfl ?_
  refine x_getIv 4 1301 C fr_X11_294 dX11_unmixed_1 rfl rfl rfl rfl (by assumption) (by first | assumption | rfl) ?_
  refine x_if_ne 7 15 C dX11_unmixed_4 rfl (by decide) (by first | exact hRw _ _ | assumption | exact ⟨by omega, by omega⟩ | exact hw.1 _ _ | omega) (fun h4 => ?_) (fun h4 => ?_)
  · skip
    refine x_aload_n 16 C dX11_unmixed_15 rfl rfl ?_
    exact x_aret (r := some _) C dX11_unmixed_16 rfl ⟨by rw [show rkUm R md a pg = a from if_neg (fun z => h4 z.1)] <;> rfl, rfl⟩
  · skip
    refine x_aload_n 8 C dX11_unmixed_7 rfl rfl ?_
    refine x_aload_n 9 C dX11_unmixed_8 rfl rfl ?_
    refine x_callS (As := [_, _]) 12 0 0 C vw_X11_290 tw_X11_isMixed (c_X11_isMixed hW hr h61 h0) dX11_unmixed_9 rfl rfl rfl ⟨Nat.le_of_ble_eq_true rfl, Nat.le_of_ble_eq_true rfl⟩ (Nat.le_of_ble_eq_true rfl) ⟨Nat.le_refl _, Nat.le_refl _⟩ (fun v G' hq => ?_)
    obtain ⟨rfl, hG9⟩ := hq
    replace hG9 := hG9.symm
    subst hG9
    refine x_as rfl rfl rfl ?_
    refine x_if_neB 15 17 C dX11_unmixed_12 rfl (by decide) (fun h12 => ?_) (fun h12 => ?_)
    · skip
      refine x_aload_n 18 C dX11_unmixed_17 rfl rfl ?_
      refine x_iconst 19 C dX11_unmixed_18 rfl ?_
      refine x_aload_n 20 C dX11_unmixed_19 rfl rfl ?_
      refine x_getO 23 302 C fr_X11_124 dX11_unmixed_20 rfl rfl rfl rfl (by assumption) (by assumption) ?_
      refine x_aload_n 24 C dX11_unmixed_23 rfl rfl ?_
      refine x_getIv 27 303 C fr_X11_128 dX11_unmixed_24 rfl rfl rfl rfl (by assumption) (by first | assumption | rfl) ?_
      refine x_aload_n 28 C dX11_unmixed_27 rfl rfl ?_
      refine x_getIv 31 304 C fr_X11_110 dX11_unmixed_28 rfl rfl rfl rfl (by assumption) (by first | assumption | rfl) ?_
      refine x_callV (As := [_, _, _, _]) 34 14 0 0 C vw_X11_166 iw_X11_findAddress sw_X11_findAddress (c_X11_findAddress hW d2 ⟨by omega, by omega⟩ (hRw _ _) (hRw _ _)) dX11_unmixed_31 rfl rfl rfl rfl rfl rfl (by assumption) ⟨Nat.le_of_ble_eq_true rfl, Nat.le_of_ble_eq_true rfl⟩ (Nat.le_of_ble_eq_true rfl) ⟨Nat.le_refl _, Nat.le_refl _⟩ (fun v G' hq => ?_)
      obtain ⟨rfl, hG9⟩ := hq
      replace hG9 := hG9.symm
      subst hG9
      refine x_as rfl rfl rfl ?_
      refine x_astore_nq 35 C dX11_unmixed_34 rfl rfl rfl ?_
      refine x_aload_nq 36 C dX11_unmixed_35 rfl rfl ?_
      refine x_ifnonnull 39 43 C dX11_unmixed_36 rfl (by decide) (fun a36 h36 => ?_) (fun h36 => ?_)
      · skip
        have n36 := rkOp_some h36
        have hum : rkUm R md a pg = rFnd R 1 (R 9 a.toNat) (R 10 a.toNat) (R 11 a.toNat) := if_pos ⟨by omega, h12, n36.1⟩
        rw [rkOp_s (show 0 ≤ rFnd R 1 (R 9 a.toNat) (R 10 a.toNat) (R 11 a.toNat) by omega)]
        refine x_aload_n 44 C dX11_unmixed_43 rfl rfl ?_
        exact x_aret (r := some _) C dX11_unmixed_44 rfl ⟨by rw [hum] <;> rfl, rfl⟩
      · skip
        have n36 := rkOp_none h36
        have hum : rkUm R md a pg = a := if_neg (fun z => z.2.2 n36)
        refine x_aload_n 40 C dX11_unmixed_39 rfl rfl ?_
        refine x_goto 44 C dX11_unmixed_40 (by decide) ?_
        exact x_aret (r := some _) C dX11_unmixed_44 rfl ⟨by rw [hum] <;> rfl, rfl⟩
    · skip
      refine x_aload_n 16 C dX11_unmixed_15 rfl rfl ?_
      exact x_aret (r := some _) C dX11_unmixed_16 rfl ⟨by rw [show rkUm R md a pg = a from rkMx_no h12] <;> rfl, rfl⟩
set_option maxHeartbeats 2000000 in
set_option maxRecDepth 100000 in
theorem c_X11_follow {E : EV} {l : Launch} {G : GT} {B : Nat → Nat} {R : RT} (hW : rkW G B R) {rq : Nat} {pg md cr hd me ta0 af0 : Int} (hr : rkRq G B rq pg md cr hd me ta0 af0) (h61 : 0 ≤ pg ∧ pg < R 24 0) {hp : Nat} {a me2 ta af nv qt : Int} (hh : rkHv G B hp a me2 ta af nv qt) (h0 : 0 ≤ a ∧ a < R 7 0)  : MT E l yX11_follow cX11_follow 3 (some (.object "HopRules$Address")) 2 42 0 0 [.ref rq, .ref hp] (G) (fun v G' => v = some (va_rf (rkOp G (B 2) (R 12 a.toNat))) ∧ ((R 12 a.toNat = -1 ∧ G' = G) ∨ (¬ R 12 a.toNat = -1 ∧ G' = rkFw G rq hp (md = 1 ∧ rkCr R ta a pg = true ∧ rSame R (R 12 a.toNat) a = false) (R 13 a.toNat = 2 ∨ (R 13 a.toNat ≤ 1 ∧ me = 1))))) := by
  refine mt_of (own := RX11) (L := [some (.ref rq), some (.ref hp), none]) (by decide +kernel) rfl (Nat.le_of_ble_eq_true rfl) (List.forall_mem_cons.mpr ⟨rfl, (List.forall_mem_cons.mpr ⟨rfl, (fun _ h => absurd h List.not_mem_nil)⟩)⟩) rfl ?_
  intro p e s m args below meth c C hin
  refine x_wf (fun hw => ?_)
  obtain ⟨hB, hH, hA, hP, hI⟩ := id hW
  obtain ⟨⟨b0, b6, b7⟩, ⟨bk1, bk2, bk3, bk4, bk5, bk8, bk9⟩, ⟨bp0, bp1, bp2, bp3, bp4, bp5, bp6, bp7, bp8⟩, -⟩ := id hB
  obtain ⟨hl1, hh1⟩ := id hH
  obtain ⟨hl2, hh2⟩ := id hA
  obtain ⟨hl3, hh3⟩ := id hP
  obtain ⟨iH, iA, iAd, iHl, iP, iS, hRw, iU⟩ := id hI
  have iH1 := iH.1
  have iA1 := iA.1
  have iA2 := iA.2
  have iP1 := iP.1
  obtain ⟨rk, r0, r1, r2, r3, r5, r6, r7⟩ := id hr
  have rmd : InR md := by (rw [← r1]; exact hw.1 _ _)
  have rcr : InR cr := by (rw [← r2]; exact hw.1 _ _)
  have rhd : InR hd := by (rw [← r3]; exact hw.1 _ _)
  have rm5 : InR me := by (rw [← r5]; exact hw.1 _ _)
  have rt6 : InR ta0 := by (rw [← r6]; exact hw.1 _ _)
  have rf7 : InR af0 := by (rw [← r7]; exact hw.1 _ _)
  obtain ⟨g1, g2, g3, g4⟩ := hh3 pg h61.1 h61.2
  obtain ⟨u1, u2, u3⟩ := iP.2 pg.toNat (by omega)
  obtain ⟨⟨m1, m2, m3, m4, m5, m6⟩, -⟩ := hh2 (R 25 pg.toNat) u1.1 u1.2
  obtain ⟨hk, hp0, hp1, hp2, hp3, hp4, hp5⟩ := id hh
  have rta : InR ta := by (rw [← hp2]; exact hw.1 _ _)
  obtain ⟨⟨a1, a2, a3, a4, a5, a6⟩, -, ⟨b1, b2, b3, b4, b5, b8⟩, -⟩ := hh2 a h0.1 h0.2
  have hsd := rkOrg_d iAd h0 u1
  have oa := rkOrg_in iH iAd h0
  have ob := rkOrg_in iH iAd u1
  obtain ⟨d1, d2, d3, d4, d5, d6, d7, d8⟩ := iAd a.toNat (by omega)
  refine x_aload_n 1 C dX11_follow_0 rfl rfl ?_
  refine x_getO 4 700 C fr_X11_310 dX11_follow_1 rfl rfl rfl rfl (by assumption) (by assumption) ?_
  refine x_getPv 7 306 C fr_X11_178 dX11_follow_4 rfl rfl rfl rfl (by assumption) (by first | assumption | rfl) ?_
  refine x_astore_nq 8 C dX11_follow_7 rfl rfl rfl ?_
  refine x_aload_nq 9 C dX11_follow_8 rfl rfl ?_
  refine x_ifnonnull 12 14 C dX11_follow_9 rfl (by decide) (fun a9 h9 => ?_) (fun h9 => ?_)
  · skip
    have n9 := rkOp_some h9
    have n12 : 0 ≤ R 12 a.toNat ∧ R 12 a.toNat < R 7 0 := ⟨by omega, d5.2⟩
    rw [rkOp_s n12.1]
    obtain ⟨⟨e1, -⟩, -⟩ := hh2 (R 12 a.toNat) n12.1 n12.2
    have hsd2 := rkOrg_d iAd n12 h0
    have oc := rkOrg_in iH iAd n12
    refine x_aload_n 15 C dX11_follow_14 rfl rfl ?_
    refine x_iconst 16 C dX11_follow_15 rfl ?_
    refine x_putZ 19 711 C fw_X11_342 (fun h => by cases h) dX11_follow_16 rfl rfl rfl rfl (by assumption) (by first | assumption | omega | exact bI_01 _) ?_
    have hF1 : rkFr [711] [] G (sI G 711 hp 1) := fr_sI (by decide) (by decide) fr_rfl
    have hW1 := rkW_fr hW hF1 (by decide) ⟨List.not_mem_nil, List.not_mem_nil, List.not_mem_nil⟩ (fun x z => by cases z)
    have hr1 := rkRq_fr hr hF1 (by decide) rfl
    have hh1v := rkHv_fr hh hF1 (by decide) rfl
    have rk1 : gK (sI G 711 hp 1) rq = 13 := rk
    have r11 : gI (sI G 711 hp 1) 1301 rq = md := hr1.2.2.1
    have e11 : gK (sI G 711 hp 1) (rkAt G (B 2) (R 12 a.toNat)) = 3 := e1
    have a11 : gK (sI G 711 hp 1) (rkAt G (B 2) a) = 3 := a1
    have hk1 : gK (sI G 711 hp 1) hp = 7 := hk
    have hp01 : gP (sI G 711 hp 1) 700 hp = some (rkAt G (B 2) a) := hp0
    refine x_join (α := Unit) 54 (fun u => True) (fun u => if (md = 1 ∧ rkCr R ta a pg = true ∧ rSame R (R 12 a.toNat) a = false) then sI (sI G 711 hp 1) 1306 rq 1 else sI G 711 hp 1) (fun u => [some (.ref rq), some (.ref hp), some (.ref (rkAt G (B 2) (R 12 a.toNat)))]) (fun u => []) ?_ (fun hJ54 => ?_)
    · intro aa hJ
      obtain ⟨u, rfl⟩ := (⟨aa, rfl⟩ : ∃ z, z = aa)
      (try dsimp only at hJ); (try dsimp only)
      obtain ⟨G7, hG7⟩ : ∃ G7 : GT, G7 = (if (md = 1 ∧ rkCr R ta a pg = true ∧ rSame R (R 12 a.toNat) a = false) then sI (sI G 711 hp 1) 1306 rq 1 else sI G 711 hp 1) := ⟨_, rfl⟩
      refine x_as (G' := G7) hG7 rfl rfl ?_
      have hF7 : rkFr [711, 1306] [] G G7 := by (rw [hG7]; split; exact fr_sI (by decide) (by decide) (fr_sI (by decide) (by decide) fr_rfl); exact fr_sI (by decide) (by decide) fr_rfl)
      have rk7 : gK G7 rq = 13 := (hF7.1 rq (by omega)).trans rk
      have hk7 : gK G7 hp = 7 := (hF7.1 hp (by omega)).trans hk
      have r57 : gI G7 1305 rq = me := ((hF7.2.1 1305 rq (by omega) (by decide)).1).trans r5
      have hp07 : gP G7 700 hp = some (rkAt G (B 2) a) := ((hF7.2.1 700 hp (by omega) (by decide)).2).trans hp0
      have a17 : gK G7 (rkAt G (B 2) a) = 3 := (hF7.1 _ (by omega)).trans a1
      have b27 : gI G7 307 (rkAt G (B 2) a) = R 13 a.toNat := ((hF7.2.1 307 _ (by omega) (by decide)).1).trans b2
      refine x_aload_n 55 C dX11_follow_54 rfl rfl ?_
      refine x_getIv 58 1305 C fr_X11_346 dX11_follow_55 rfl rfl rfl rfl (by assumption) (by first | assumption | rfl) ?_
      refine x_aload_n 59 C dX11_follow_58 rfl rfl ?_
      refine x_getO 62 700 C fr_X11_310 dX11_follow_59 rfl rfl rfl rfl (by assumption) (by assumption) ?_
      refine x_getIv 65 307 C fr_X11_182 dX11_follow_62 rfl rfl rfl rfl (by assumption) (by first | assumption | rfl) ?_
      refine x_callS (As := [_, _]) 68 0 0 C vw_X11_349 tw_X11_becomesGet (c_X11_becomesGet rm5 (hRw _ _)) dX11_follow_65 rfl rfl rfl ⟨Nat.le_of_ble_eq_true rfl, Nat.le_of_ble_eq_true rfl⟩ (Nat.le_of_ble_eq_true rfl) ⟨Nat.le_refl _, Nat.le_refl _⟩ (fun v G' hq => ?_)
      obtain ⟨rfl, hG9⟩ := hq
      replace hG9 := hG9.symm
      subst hG9
      refine x_as rfl rfl rfl ?_
      refine x_if_eqB 71 76 C dX11_follow_68 rfl (by decide) (fun h68 => ?_) (fun h68 => ?_)
      · skip
        refine x_aload_n 77 C dX11_follow_76 rfl rfl ?_
        exact x_aret (r := some _) C dX11_follow_77 rfl ⟨rfl, Or.inr ⟨n9.1, by unfold rkFw; rw [← hG7]; first | exact (if_pos (of_decide_eq_true h68)).symm | exact (if_neg (of_decide_eq_false h68)).symm⟩⟩
      · skip
        refine x_aload_n 72 C dX11_follow_71 rfl rfl ?_
        refine x_iconst 73 C dX11_follow_72 rfl ?_
        refine x_putI 76 1305 C fw_X11_346 (fun h => by cases h) dX11_follow_73 rfl rfl rfl rfl rfl (by assumption) (by first | exact hRw _ _ | assumption | exact ⟨by omega, by omega⟩ | exact hw.1 _ _ | omega) ?_
        refine x_aload_n 77 C dX11_follow_76 rfl rfl ?_
        exact x_aret (r := some _) C dX11_follow_77 rfl ⟨rfl, Or.inr ⟨n9.1, by unfold rkFw; rw [← hG7]; first | exact (if_pos (of_decide_eq_true h68)).symm | exact (if_neg (of_decide_eq_false h68)).symm⟩⟩
    · skip
      refine x_aload_n 20 C dX11_follow_19 rfl rfl ?_
      refine x_getIv 23 1301 C fr_X11_294 dX11_follow_20 rfl rfl rfl rfl (by assumption) (by first | assumption | rfl) ?_
      refine x_iconst 24 C dX11_follow_23 rfl ?_
      refine x_icmp_ne 27 54 C dX11_follow_24 rfl (by decide) (by first | exact hRw _ _ | assumption | exact ⟨by omega, by omega⟩ | exact hw.1 _ _ | omega) (by first | exact hRw _ _ | assumption | exact ⟨by omega, by omega⟩ | exact hw.1 _ _ | omega) (fun h24 => ?_) (fun h24 => ?_)
      · skip
        exact x_as (by rw [if_neg (show ¬ (md = 1 ∧ rkCr R ta a pg = true ∧ rSame R (R 12 a.toNat) a = false) from fun z => h24 z.1)]) rfl rfl (hJ54 () trivial)
      · skip
        refine x_aload_n 28 C dX11_follow_27 rfl rfl ?_
        refine x_aload_n 29 C dX11_follow_28 rfl rfl ?_
        refine x_callS (As := [_, _]) 32 0 0 C vw_X11_297 tw_X11_isCross (c_X11_isCross hW1 hr1 h61 hh1v h0) dX11_follow_29 rfl rfl rfl ⟨Nat.le_of_ble_eq_true rfl, Nat.le_of_ble_eq_true rfl⟩ (Nat.le_of_ble_eq_true rfl) ⟨Nat.le_refl _, Nat.le_refl _⟩ (fun v G' hq => ?_)
        obtain ⟨rfl, hG9⟩ := hq
        replace hG9 := hG9.symm
        subst hG9
        refine x_as rfl rfl rfl ?_
        refine x_if_eqB 35 54 C dX11_follow_32 rfl (by decide) (fun h32 => ?_) (fun h32 => ?_)
        · skip
          exact x_as (by rw [if_neg (show ¬ (md = 1 ∧ rkCr R ta a pg = true ∧ rSame R (R 12 a.toNat) a = false) from fun z => by (rw [h32] at z; exact absurd z.2.1 (by decide)))]) rfl rfl (hJ54 () trivial)
        · skip
          refine x_aload_n 36 C dX11_follow_35 rfl rfl ?_
          refine x_callV (As := []) 39 3 0 0 C vw_X11_185 iw_X0_origin sw_X0_origin (c_X0_origin hW1 n12) dX11_follow_36 rfl rfl rfl rfl rfl rfl (by assumption) ⟨Nat.le_of_ble_eq_true rfl, Nat.le_of_ble_eq_true rfl⟩ (Nat.le_of_ble_eq_true rfl) ⟨Nat.le_refl _, Nat.le_refl _⟩ (fun v G' hq => ?_)
          obtain ⟨rfl, hG9⟩ := hq
          replace hG9 := hG9.symm
          subst hG9
          refine x_as rfl rfl rfl ?_
          refine x_aload_n 40 C dX11_follow_39 rfl rfl ?_
          refine x_getO 43 700 C fr_X11_310 dX11_follow_40 rfl rfl rfl rfl (by assumption) (by assumption) ?_
          refine x_callV (As := []) 46 3 0 0 C vw_X11_185 iw_X0_origin sw_X0_origin (c_X0_origin hW1 h0) dX11_follow_43 rfl rfl rfl rfl rfl rfl (by assumption) ⟨Nat.le_of_ble_eq_true rfl, Nat.le_of_ble_eq_true rfl⟩ (Nat.le_of_ble_eq_true rfl) ⟨Nat.le_refl _, Nat.le_refl _⟩ (fun v G' hq => ?_)
          obtain ⟨rfl, hG9⟩ := hq
          replace hG9 := hG9.symm
          subst hG9
          refine x_as rfl rfl rfl ?_
          refine x_icmp_eq 49 54 C dX11_follow_46 rfl (by decide) (by first | exact hRw _ _ | assumption | exact ⟨by omega, by omega⟩ | exact hw.1 _ _ | omega) (by first | exact hRw _ _ | assumption | exact ⟨by omega, by omega⟩ | exact hw.1 _ _ | omega) (fun h46 => ?_) (fun h46 => ?_)
          · skip
            exact x_as (by rw [if_neg (show ¬ (md = 1 ∧ rkCr R ta a pg = true ∧ rSame R (R 12 a.toNat) a = false) from fun z => by (have z2 := z.2.2; rw [hsd2, decide_eq_true h46] at z2; cases z2))]) rfl rfl (hJ54 () trivial)
          · skip
            refine x_aload_n 50 C dX11_follow_49 rfl rfl ?_
            refine x_iconst 51 C dX11_follow_50 rfl ?_
            refine x_putZ 54 1306 C fw_X11_345 (fun h => by cases h) dX11_follow_51 rfl rfl rfl rfl (by assumption) (by first | assumption | omega | exact bI_01 _) ?_
            exact x_as (by rw [if_pos (show (md = 1 ∧ rkCr R ta a pg = true ∧ rSame R (R 12 a.toNat) a = false) from ⟨by omega, h32, by rw [hsd2, decide_eq_false h46]⟩)]) rfl rfl (hJ54 () trivial)
  · skip
    have n9 := rkOp_none h9
    refine x_null 13 C dX11_follow_12 rfl ?_
    exact x_aret C dX11_follow_13 rfl ⟨by rw [h9] <;> rfl, Or.inl ⟨n9, rfl⟩⟩
