/-! rows laid by program (wip/tools/genp.py) -/
theorem rkPm_place {R : RT} (hH : RH R) (hD : RAd R) {a : Int} (ha : 0 ≤ a ∧ a < R 7 0) : 2 * rSiteOf R (R 9 a.toNat) + R 8 a.toNat = rkPm (rPlace R a) := by
  obtain ⟨d1, d2, -⟩ := hD a.toNat (by omega)
  have s1 := rSiteOf_in hH d2.1 d2.2
  have := hH.1
  unfold rkPm rPlace
  rw [if_neg (by omega)]
  omega
theorem rkRq_fr {ks ls : List Nat} {G G' : GT} {B : Nat → Nat} {rq : Nat} {pg md cr hd me ta af : Int} (h : rkRq G B rq pg md cr hd me ta af) (hf : rkFr ks ls G G') (hks : ∀ k ∈ ks, k < 1300 ∨ 1308 ≤ k) (h3 : gL G' (B 3) = gL G (B 3)) : rkRq G' B rq pg md cr hd me ta af := by
  obtain ⟨h0, h1, h2, h4, h5, h6, h7, h8⟩ := h
  have hx : gK G rq ≠ 0 := by rw [h0]; decide
  have K : ∀ k : Nat, 1300 ≤ k → k < 1308 → gI G' k rq = gI G k rq ∧ gP G' k rq = gP G k rq := fun k k0 k1 => hf.2.1 k rq hx (fun z => by have := hks k z; omega)
  exact ⟨(hf.1 rq hx).trans h0, (K 1300 (by decide) (by decide)).2.trans (h1.trans (by rw [rkAt_same h3])), (K 1301 (by decide) (by decide)).1.trans h2, (K 1302 (by decide) (by decide)).1.trans h4, (K 1303 (by decide) (by decide)).1.trans h5, (K 1305 (by decide) (by decide)).1.trans h6, (K 1306 (by decide) (by decide)).1.trans h7, (K 1307 (by decide) (by decide)).1.trans h8⟩
def rkNewHp (G : GT) (x ad : Nat) (me ta af nv pt rf : Int) (q : Nat) : GT := sP (nA (sI (sI (sI (sI (sI (sI (sP G 700 x (some ad)) 701 x me) 702 x ta) 703 x af) 704 x nv) 705 x pt) 706 x rf) q) 707 x (some q)
def rkNewRq (G : GT) (x pa : Nat) (md cr hd me af : Int) (q : Nat) : GT := sI (sI (sP (sL (sK (sI (sI (sI (sP G 1300 x (some pa)) 1301 x md) 1302 x cr) 1303 x hd) q 20) q []) 1304 x (some q)) 1305 x me) 1307 x af
def rkNewPr (G : GT) (x ad : Nat) (og al pt ot ga : Int) : GT := sI (sI (sI (sI (sP (sI G 1200 x og) 1201 x (some ad)) 1202 x al) 1203 x pt) 1204 x ot) 1205 x ga
def rkUm (R : RT) (md a pg : Int) : Int := if md = 0 ∧ rkMx R md a pg = true ∧ ¬ rFnd R 1 (R 9 a.toNat) (R 10 a.toNat) (R 11 a.toNat) = -1 then rFnd R 1 (R 9 a.toNat) (R 10 a.toNat) (R 11 a.toNat) else a
set_option maxHeartbeats 2000000 in
set_option maxRecDepth 100000 in
theorem c_X1_init {E : EV} {l : Launch} {G : GT} {x : Nat} {og cr pt : Int} (hk : gK G x = 4) (h1 : InR og) (h2 : cr = 0 ∨ cr = 1) (h3 : InR pt) : MT E l yX1_init cX1_init 4 none 1 13 0 0 [.ref x, .int (i32 og), .int (i32 cr), .int (i32 pt)] (G) (pD none (sI (sI (sI G 400 x og) 401 x cr) 402 x pt)) := by
  refine mt_of (own := RX1) (L := [some (.ref x), some (.int (i32 og)), some (.int (i32 cr)), some (.int (i32 pt))]) (by decide +kernel) rfl (Nat.le_of_ble_eq_true rfl) (List.forall_mem_cons.mpr ⟨rfl, (List.forall_mem_cons.mpr ⟨rfl, (List.forall_mem_cons.mpr ⟨rfl, (List.forall_mem_cons.mpr ⟨rfl, (fun _ h => absurd h List.not_mem_nil)⟩)⟩)⟩)⟩) rfl ?_
  intro p e s m args below meth c C hin
  refine x_wf (fun hw => ?_)
  refine x_aload_n 1 C dX1_init_0 rfl rfl ?_
  refine x_objInit 4 C ob_X1_1 ⟨Nat.le_of_ble_eq_true rfl, Nat.le_of_ble_eq_true rfl⟩ dX1_init_1 rfl ?_
  refine x_aload_n 5 C dX1_init_4 rfl rfl ?_
  refine x_iload_n 6 C dX1_init_5 rfl rfl ?_
  refine x_putI 9 400 C fw_X1_7 (fun _ => hin) dX1_init_6 rfl rfl rfl rfl rfl (by assumption) (by first | assumption | exact ⟨by omega, by omega⟩ | exact hw.1 _ _ | omega) ?_
  refine x_aload_n 10 C dX1_init_9 rfl rfl ?_
  refine x_iload_n 11 C dX1_init_10 rfl rfl ?_
  refine x_putZ 14 401 C fw_X1_13 (fun _ => hin) dX1_init_11 rfl rfl rfl rfl (by assumption) (by first | assumption | omega | exact bI_01 _) ?_
  refine x_aload_n 15 C dX1_init_14 rfl rfl ?_
  refine x_iload_n 16 C dX1_init_15 rfl rfl ?_
  refine x_putI 19 402 C fw_X1_17 (fun _ => hin) dX1_init_16 rfl rfl rfl rfl rfl (by assumption) (by first | assumption | exact ⟨by omega, by omega⟩ | exact hw.1 _ _ | omega) ?_
  exact x_ret C dX1_init_19 ⟨rfl, rfl⟩
set_option maxHeartbeats 2000000 in
set_option maxRecDepth 100000 in
theorem c_X9_init {E : EV} {l : Launch} {G : GT} {B : Nat → Nat} {R : RT} (hW : rkW G B R) {x : Nat} {nw : Int} (hk12 : gK G x = 12) {rq : Nat} {pg md cr hd me ta0 af0 : Int} (hr : rkRq G B rq pg md cr hd me ta0 af0) (h61 : 0 ≤ pg ∧ pg < R 24 0) {hp : Nat} {a me2 ta af nv qt : Int} (hh : rkHv G B hp a me2 ta af nv qt) (h0 : 0 ≤ a ∧ a < R 7 0) (hnw : 0 ≤ nw ∧ nw ≤ 1000000000) (h17 : 0 ≤ R 17 a.toNat ∧ R 17 a.toNat ≤ 1000) : MT E l yX9_init cX9_init 4 none 1 21 0 0 [.ref x, .ref rq, .ref hp, .int (i32 nw)] (G) (pD none (rkNewPr G x (rkAt G (B 2) a) (if ta = 0 then rkOrg R (R 25 pg.toNat) else -3) (bI (decide (cr = 2))) qt (R 16 a.toNat) (nw + R 17 a.toNat))) := by
  refine mt_of (own := RX9) (L := [some (.ref x), some (.ref rq), some (.ref hp), some (.int (i32 nw))]) (by decide +kernel) rfl (Nat.le_of_ble_eq_true rfl) (List.forall_mem_cons.mpr ⟨rfl, (List.forall_mem_cons.mpr ⟨rfl, (List.forall_mem_cons.mpr ⟨rfl, (List.forall_mem_cons.mpr ⟨rfl, (fun _ h => absurd h List.not_mem_nil)⟩)⟩)⟩)⟩) rfl ?_
  intro p e s m args below meth c C hin
  refine x_wf (fun hw => ?_)
  obtain ⟨hB, hH, hA, hP, hI⟩ := id hW
  obtain ⟨⟨b0, b6, b7⟩, ⟨bk1, bk2, bk3, bk4, bk5, bk8, bk9⟩, ⟨bp0, bp1, bp2, bp3, bp4, bp5, bp6, bp7, bp8⟩, -⟩ := id hB
  obtain ⟨hl1, hh1⟩ := id hH
  obtain ⟨hl2, hh2⟩ := id hA
  obtain ⟨hl3, hh3⟩ := id hP
  obtain ⟨iH, iA, iAd, iHl, iP, iS, hRw, iU⟩ := id hI
  have iH1 := iH.1
  have iA1 := iA.1
  have iA2 := iA.2
  have iP1 := iP.1
  obtain ⟨rk, r0, r1, r2, r3, r5, r6, r7⟩ := id hr
  have rmd : InR md := by (rw [← r1]; exact hw.1 _ _)
  have rcr : InR cr := by (rw [← r2]; exact hw.1 _ _)
  have rhd : InR hd := by (rw [← r3]; exact hw.1 _ _)
  have rm5 : InR me := by (rw [← r5]; exact hw.1 _ _)
  have rt6 : InR ta0 := by (rw [← r6]; exact hw.1 _ _)
  have rf7 : InR af0 := by (rw [← r7]; exact hw.1 _ _)
  obtain ⟨g1, g2, g3, g4⟩ := hh3 pg h61.1 h61.2
  obtain ⟨u1, u2, u3⟩ := iP.2 pg.toNat (by omega)
  obtain ⟨⟨m1, m2, m3, m4, m5, m6⟩, -⟩ := hh2 (R 25 pg.toNat) u1.1 u1.2
  obtain ⟨hk, hp0, hp1, hp2, hp3, hp4, hp5⟩ := id hh
  have rta : InR ta := by (rw [← hp2]; exact hw.1 _ _)
  obtain ⟨⟨a1, a2, a3, a4, a5, a6⟩, -, ⟨b1, b2, b3, b4, b5, b8⟩, -⟩ := hh2 a h0.1 h0.2
  have hsd := rkOrg_d iAd h0 u1
  have oa := rkOrg_in iH iAd h0
  have ob := rkOrg_in iH iAd u1
  have rpt : InR qt := by (rw [← hp5]; exact hw.1 _ _)
  have r310 : InR (R 16 a.toNat) := hRw _ _
  refine x_aload_n 1 C dX9_init_0 rfl rfl ?_
  refine x_objInit 4 C ob_X9_3 ⟨Nat.le_of_ble_eq_true rfl, Nat.le_of_ble_eq_true rfl⟩ dX9_init_1 rfl ?_
  refine x_aload_n 5 C dX9_init_4 rfl rfl ?_
  refine x_joinv 27 (fun vJ => vJ = if ta = 0 then rkOrg R (R 25 pg.toNat) else -3) ?_ (fun hJ27 => ?_)
  · intro vJ hJ
    subst hJ
    refine x_putI 30 1200 C fw_X9_33 (fun _ => hin) dX9_init_27 rfl rfl rfl rfl rfl (by assumption) (by split; exact ⟨by omega, by omega⟩; exact ⟨by omega, by omega⟩) ?_
    refine x_aload_n 31 C dX9_init_30 rfl rfl ?_
    refine x_aload_n 32 C dX9_init_31 rfl rfl ?_
    refine x_getO 35 700 C fr_X9_38 dX9_init_32 rfl rfl rfl rfl (by assumption) (by assumption) ?_
    refine x_putO 38 1201 C fw_X9_39 (fun _ => hin) dX9_init_35 rfl rfl rfl rfl (by assumption) ?_
    refine x_aload_n 39 C dX9_init_38 rfl rfl ?_
    refine x_joinv 52 (fun vJ => vJ = bI (decide (cr = 2))) ?_ (fun hJ52 => ?_)
    · intro vJ hJ
      subst hJ
      refine x_putZ 55 1202 C fw_X9_43 (fun _ => hin) dX9_init_52 rfl rfl rfl rfl (by assumption) (by first | assumption | omega | exact bI_01 _) ?_
      refine x_aload_n 56 C dX9_init_55 rfl rfl ?_
      refine x_aload_n 57 C dX9_init_56 rfl rfl ?_
      refine x_getIv 60 705 C fr_X9_46 dX9_init_57 rfl rfl rfl rfl (by assumption) (by first | assumption | rfl) ?_
      refine x_putI 63 1203 C fw_X9_49 (fun _ => hin) dX9_init_60 rfl rfl rfl rfl rfl (by assumption) (by first | exact hRw _ _ | assumption | exact ⟨by omega, by omega⟩ | exact hw.1 _ _ | omega) ?_
      refine x_aload_n 64 C dX9_init_63 rfl rfl ?_
      refine x_aload_n 65 C dX9_init_64 rfl rfl ?_
      refine x_getO 68 700 C fr_X9_38 dX9_init_65 rfl rfl rfl rfl (by assumption) (by assumption) ?_
      refine x_getIv 71 310 C fr_X9_50 dX9_init_68 rfl rfl rfl rfl (by assumption) (by first | assumption | rfl) ?_
      refine x_putI 74 1204 C fw_X9_53 (fun _ => hin) dX9_init_71 rfl rfl rfl rfl rfl (by assumption) (by first | exact hRw _ _ | assumption | exact ⟨by omega, by omega⟩ | exact hw.1 _ _ | omega) ?_
      refine x_aload_n 75 C dX9_init_74 rfl rfl ?_
      refine x_iload_n 76 C dX9_init_75 rfl rfl ?_
      refine x_aload_n 77 C dX9_init_76 rfl rfl ?_
      refine x_getO 80 700 C fr_X9_38 dX9_init_77 rfl rfl rfl rfl (by assumption) (by assumption) ?_
      refine x_getIv 83 311 C fr_X9_56 dX9_init_80 rfl rfl rfl rfl (by assumption) (by first | assumption | rfl) ?_
      refine x_iadd 84 C dX9_init_83 rfl ?_
      refine x_putI 87 1205 C fw_X9_59 (fun _ => hin) dX9_init_84 rfl rfl rfl rfl rfl (by assumption) ⟨by omega, by omega⟩ ?_
      exact x_ret C dX9_init_87 ⟨rfl, rfl⟩
    · skip
      refine x_aload_n 40 C dX9_init_39 rfl rfl ?_
      refine x_getIv 43 1302 C fr_X9_40 dX9_init_40 rfl rfl rfl rfl (by assumption) (by first | assumption | rfl) ?_
      refine x_iconst 44 C dX9_init_43 rfl ?_
      refine x_icmp_ne 47 51 C dX9_init_44 rfl (by decide) (by first | exact hRw _ _ | assumption | exact ⟨by omega, by omega⟩ | exact hw.1 _ _ | omega) (by first | exact hRw _ _ | assumption | exact ⟨by omega, by omega⟩ | exact hw.1 _ _ | omega) (fun h44 => ?_) (fun h44 => ?_)
      · skip
        refine x_iconst 52 C dX9_init_51 rfl ?_
        exact hJ52 _ (by first | (rw [decide_eq_false h44]; rfl) | (rw [decide_eq_true (show cr = 2 by omega)]; rfl))
      · skip
        refine x_iconst 48 C dX9_init_47 rfl ?_
        refine x_goto 52 C dX9_init_48 (by decide) ?_
        exact hJ52 _ (by first | (rw [decide_eq_false h44]; rfl) | (rw [decide_eq_true (show cr = 2 by omega)]; rfl))
  · skip
    refine x_aload_n 6 C dX9_init_5 rfl rfl ?_
    refine x_getIv 9 702 C fr_X9_9 dX9_init_6 rfl rfl rfl rfl (by assumption) (by first | assumption | rfl) ?_
    refine x_if_eq 12 17 C dX9_init_9 rfl (by decide) (by first | exact hRw _ _ | assumption | exact ⟨by omega, by omega⟩ | exact hw.1 _ _ | omega) (fun h9 => ?_) (fun h9 => ?_)
    · skip
      refine x_aload_n 18 C dX9_init_17 rfl rfl ?_
      refine x_getO 21 1300 C fr_X9_15 dX9_init_18 rfl rfl rfl rfl (by assumption) (by assumption) ?_
      refine x_getO 24 1000 C fr_X9_21 dX9_init_21 rfl rfl rfl rfl (by assumption) (by assumption) ?_
      refine x_callV (As := []) 27 3 0 0 C vw_X9_27 iw_X0_origin sw_X0_origin (c_X0_origin hW u1) dX9_init_24 rfl rfl rfl rfl rfl rfl (by assumption) ⟨Nat.le_of_ble_eq_true rfl, Nat.le_of_ble_eq_true rfl⟩ (Nat.le_of_ble_eq_true rfl) ⟨Nat.le_refl _, Nat.le_refl _⟩ (fun v G' hq => ?_)
      obtain ⟨rfl, hG9⟩ := hq
      replace hG9 := hG9.symm
      subst hG9
      refine x_as rfl rfl rfl ?_
      exact hJ27 _ (by first | rw [if_pos (show ta = 0 by omega)] | rw [if_neg (show ¬ ta = 0 by omega)])
    · skip
      refine x_bipush 14 C dX9_init_12 rfl (by decide) ?_
      refine x_goto 27 C dX9_init_14 (by decide) ?_
      exact hJ27 _ (by first | rw [if_pos (show ta = 0 by omega)] | rw [if_neg (show ¬ ta = 0 by omega)])
set_option maxHeartbeats 2000000 in
set_option maxRecDepth 100000 in
theorem c_X9_isForSame {E : EV} {l : Launch} {G : GT} {x : Nat} {og1 al1 pt1 ot1 ga1 : Int} {ad1 : Nat} (hx : gK G x = 12 ∧ gI G 1200 x = og1 ∧ gP G 1201 x = some ad1 ∧ gI G 1202 x = al1 ∧ gI G 1203 x = pt1 ∧ gI G 1204 x = ot1 ∧ gI G 1205 x = ga1) {y : Nat} {og2 al2 pt2 ot2 ga2 : Int} {ad2 : Nat} (hy : gK G y = 12 ∧ gI G 1200 y = og2 ∧ gP G 1201 y = some ad2 ∧ gI G 1202 y = al2 ∧ gI G 1203 y = pt2 ∧ gI G 1204 y = ot2 ∧ gI G 1205 y = ga2)  : MT E l yX9_isForSame cX9_isForSame 2 (some .boolean) 0 0 0 0 [.ref x, .ref y] (G) (pD (some (.int (i32 (bI (decide (og1 = og2 ∧ ad1 = ad2 ∧ al1 = al2 ∧ pt1 = pt2)))))) (G)) := by
  refine mt_of (own := RX9) (L := [some (.ref x), some (.ref y)]) (by decide +kernel) rfl (Nat.le_of_ble_eq_true rfl) (List.forall_mem_cons.mpr ⟨rfl, (List.forall_mem_cons.mpr ⟨rfl, (fun _ h => absurd h List.not_mem_nil)⟩)⟩) rfl ?_
  intro p e s m args below meth c C hin
  refine x_wf (fun hw => ?_)
  obtain ⟨k1, e01, e11, e21, e31, e41, e51⟩ := id hx
  have ro1 : InR og1 := by (rw [← e01]; exact hw.1 _ _)
  have rl1 : InR al1 := by (rw [← e21]; exact hw.1 _ _)
  have rp1 : InR pt1 := by (rw [← e31]; exact hw.1 _ _)
  obtain ⟨k2, e02, e12, e22, e32, e42, e52⟩ := id hy
  have ro2 : InR og2 := by (rw [← e02]; exact hw.1 _ _)
  have rl2 : InR al2 := by (rw [← e22]; exact hw.1 _ _)
  have rp2 : InR pt2 := by (rw [← e32]; exact hw.1 _ _)
  refine x_joinv 49 (fun vJ => vJ = bI (decide (og1 = og2 ∧ ad1 = ad2 ∧ al1 = al2 ∧ pt1 = pt2))) ?_ (fun hJ49 => ?_)
  · intro vJ hJ
    subst hJ
    exact x_iret C dX9_isForSame_49 (by first | rfl | exact nar_b _ | exact nar_01 (by first | assumption | omega)) ⟨vi (rfl), rfl⟩
  · skip
    refine x_aload_n 1 C dX9_isForSame_0 rfl rfl ?_
    refine x_getIv 4 1200 C fr_X9_33 dX9_isForSame_1 rfl rfl rfl rfl (by assumption) (by first | assumption | rfl) ?_
    refine x_aload_n 5 C dX9_isForSame_4 rfl rfl ?_
    refine x_getIv 8 1200 C fr_X9_33 dX9_isForSame_5 rfl rfl rfl rfl (by assumption) (by first | assumption | rfl) ?_
    refine x_icmp_ne 11 48 C dX9_isForSame_8 rfl (by decide) (by first | assumption | exact ⟨by omega, by omega⟩ | exact hw.1 _ _ | omega) (by first | assumption | exact ⟨by omega, by omega⟩ | exact hw.1 _ _ | omega) (fun h8 => ?_) (fun h8 => ?_)
    · skip
      refine x_iconst 49 C dX9_isForSame_48 rfl ?_
      exact hJ49 _ (by first | (rw [decide_eq_false (fun z => h8 z.1)]; rfl) | (rw [decide_eq_false (fun z => h19 (by rw [z.2.1]))]; rfl) | (rw [decide_eq_false (fun z => h30 z.2.2.1)]; rfl) | (rw [decide_eq_false (fun z => h41 z.2.2.2)]; rfl) | (rw [decide_eq_true ⟨by omega, Option.some.inj h19, by omega, by omega⟩]; rfl))
    · skip
      refine x_aload_n 12 C dX9_isForSame_11 rfl rfl ?_
      refine x_getO 15 1201 C fr_X9_39 dX9_isForSame_12 rfl rfl rfl rfl (by assumption) (by assumption) ?_
      refine x_aload_n 16 C dX9_isForSame_15 rfl rfl ?_
      refine x_getO 19 1201 C fr_X9_39 dX9_isForSame_16 rfl rfl rfl rfl (by assumption) (by assumption) ?_
      refine x_acmp_ne (rx := some _) (ry := some _) 22 48 C dX9_isForSame_19 rfl (by decide) (fun h19 => ?_) (fun h19 => ?_)
      · skip
        refine x_iconst 49 C dX9_isForSame_48 rfl ?_
        exact hJ49 _ (by first | (rw [decide_eq_false (fun z => h8 z.1)]; rfl) | (rw [decide_eq_false (fun z => h19 (by rw [z.2.1]))]; rfl) | (rw [decide_eq_false (fun z => h30 z.2.2.1)]; rfl) | (rw [decide_eq_false (fun z => h41 z.2.2.2)]; rfl) | (rw [decide_eq_true ⟨by omega, Option.some.inj h19, by omega, by omega⟩]; rfl))
      · skip
        refine x_aload_n 23 C dX9_isForSame_22 rfl rfl ?_
        refine x_getIv 26 1202 C fr_X9_43 dX9_isForSame_23 rfl rfl rfl rfl (by assumption) (by first | assumption | rfl) ?_
        refine x_aload_n 27 C dX9_isForSame_26 rfl rfl ?_
        refine x_getIv 30 1202 C fr_X9_43 dX9_isForSame_27 rfl rfl rfl rfl (by assumption) (by first | assumption | rfl) ?_
        refine x_icmp_ne 33 48 C dX9_isForSame_30 rfl (by decide) (by first | assumption | exact ⟨by omega, by omega⟩ | exact hw.1 _ _ | omega) (by first | assumption | exact ⟨by omega, by omega⟩ | exact hw.1 _ _ | omega) (fun h30 => ?_) (fun h30 => ?_)
        · skip
          refine x_iconst 49 C dX9_isForSame_48 rfl ?_
          exact hJ49 _ (by first | (rw [decide_eq_false (fun z => h8 z.1)]; rfl) | (rw [decide_eq_false (fun z => h19 (by rw [z.2.1]))]; rfl) | (rw [decide_eq_false (fun z => h30 z.2.2.1)]; rfl) | (rw [decide_eq_false (fun z => h41 z.2.2.2)]; rfl) | (rw [decide_eq_true ⟨by omega, Option.some.inj h19, by omega, by omega⟩]; rfl))
        · skip
          refine x_aload_n 34 C dX9_isForSame_33 rfl rfl ?_
          refine x_getIv 37 1203 C fr_X9_49 dX9_isForSame_34 rfl rfl rfl rfl (by assumption) (by first | assumption | rfl) ?_
          refine x_aload_n 38 C dX9_isForSame_37 rfl rfl ?_
          refine x_getIv 41 1203 C fr_X9_49 dX9_isForSame_38 rfl rfl rfl rfl (by assumption) (by first | assumption | rfl) ?_
          refine x_icmp_ne 44 48 C dX9_isForSame_41 rfl (by decide) (by first | assumption | exact ⟨by omega, by omega⟩ | exact hw.1 _ _ | omega) (by first | assumption | exact ⟨by omega, by omega⟩ | exact hw.1 _ _ | omega) (fun h41 => ?_) (fun h41 => ?_)
          · skip
            refine x_iconst 49 C dX9_isForSame_48 rfl ?_
            exact hJ49 _ (by first | (rw [decide_eq_false (fun z => h8 z.1)]; rfl) | (rw [decide_eq_false (fun z => h19 (by rw [z.2.1]))]; rfl) | (rw [decide_eq_false (fun z => h30 z.2.2.1)]; rfl) | (rw [decide_eq_false (fun z => h41 z.2.2.2)]; rfl) | (rw [decide_eq_true ⟨by omega, Option.some.inj h19, by omega, by omega⟩]; rfl))
          · skip
            refine x_iconst 45 C dX9_isForSame_44 rfl ?_
            refine x_goto 49 C dX9_isForSame_45 (by decide) ?_
            exact hJ49 _ (by first | (rw [decide_eq_false (fun z => h8 z.1)]; rfl) | (rw [decide_eq_false (fun z => h19 (by rw [z.2.1]))]; rfl) | (rw [decide_eq_false (fun z => h30 z.2.2.1)]; rfl) | (rw [decide_eq_false (fun z => h41 z.2.2.2)]; rfl) | (rw [decide_eq_true ⟨by omega, Option.some.inj h19, by omega, by omega⟩]; rfl))
set_option maxHeartbeats 2000000 in
set_option maxRecDepth 100000 in
theorem c_X4_init {E : EV} {l : Launch} {G : GT} {B : Nat → Nat} {R : RT} (hW : rkW G B R) {x rq : Nat} {a cr hd me ta0 af0 : Int} (hk7 : gK G x = 7) (hr : rkRq G B rq (R 61 0) (R 62 0) cr hd me ta0 af0) (h61 : 0 ≤ R 61 0 ∧ R 61 0 < R 24 0) (h0 : 0 ≤ a ∧ a < R 7 0) (hz : (ta0 = 0 ∨ ta0 = 1) ∧ (af0 = 0 ∨ af0 = 1)) : MT E l yX4_init cX4_init 3 none 2 43 1 10 [.ref x, .ref rq, .ref (rkAt G (B 2) a)] (G) (fun v G' => v = none ∧ ∃ q, gK G q = 0 ∧ G' = rkNewHp G x (rkAt G (B 2) a) me ta0 af0 (bI (decide (R 62 0 = 2))) (rkPm (rWhere R a)) (rRef R a) q) := by
  refine mt_of (own := RX4) (L := [some (.ref x), some (.ref rq), some (.ref (rkAt G (B 2) a))]) (by decide +kernel) rfl (Nat.le_of_ble_eq_true rfl) (List.forall_mem_cons.mpr ⟨rfl, (List.forall_mem_cons.mpr ⟨rfl, (List.forall_mem_cons.mpr ⟨rfl, (fun _ h => absurd h List.not_mem_nil)⟩)⟩)⟩) rfl ?_
  intro p e s m args below meth c C hin
  refine x_wf (fun hw => ?_)
  obtain ⟨hB, hH, hA, hP, hI⟩ := id hW
  obtain ⟨⟨b0, b6, b7⟩, ⟨bk1, bk2, bk3, bk4, bk5, bk8, bk9⟩, ⟨bp0, bp1, bp2, bp3, bp4, bp5, bp6, bp7, bp8⟩, -⟩ := id hB
  obtain ⟨hl1, hh1⟩ := id hH
  obtain ⟨hl2, hh2⟩ := id hA
  obtain ⟨hl3, hh3⟩ := id hP
  obtain ⟨iH, iA, iAd, iHl, iP, iS, hRw, iU⟩ := id hI
  have iH1 := iH.1
  have iA1 := iA.1
  have iA2 := iA.2
  have iP1 := iP.1
  obtain ⟨rk, r0, r1, r2, r3, r5, r6, r7⟩ := id hr
  have rmd : InR (R 62 0) := by (rw [← r1]; exact hw.1 _ _)
  have rcr : InR cr := by (rw [← r2]; exact hw.1 _ _)
  have rhd : InR hd := by (rw [← r3]; exact hw.1 _ _)
  have rm5 : InR me := by (rw [← r5]; exact hw.1 _ _)
  have rt6 : InR ta0 := by (rw [← r6]; exact hw.1 _ _)
  have rf7 : InR af0 := by (rw [← r7]; exact hw.1 _ _)
  obtain ⟨g1, g2, g3, g4⟩ := hh3 (R 61 0) h61.1 h61.2
  obtain ⟨u1, u2, u3⟩ := iP.2 (R 61 0).toNat (by omega)
  obtain ⟨⟨m1, m2, m3, m4, m5, m6⟩, -⟩ := hh2 (R 25 (R 61 0).toNat) u1.1 u1.2
  obtain ⟨⟨a1, a2, a3, a4, a5, a6⟩, -⟩ := hh2 a h0.1 h0.2
  have htp : 0 ≤ rTop R (R 61 0) ∧ rTop R (R 61 0) < R 24 0 := rTopF_in iP 8 (R 61 0) h61.1 h61.2
  obtain ⟨t1, t2, t3, t4⟩ := hh3 (rTop R (R 61 0)) htp.1 htp.2
  obtain ⟨v1, v2, v3⟩ := iP.2 (rTop R (R 61 0)).toNat (by omega)
  obtain ⟨⟨n1, n2, n3, n4, n5, n6⟩, -⟩ := hh2 (R 25 (rTop R (R 61 0)).toNat) v1.1 v1.2
  have pl1 := rkPm_place iH iAd h0
  have pl2 := rkPm_place iH iAd v1
  obtain ⟨d1, d2, -⟩ := iAd a.toNat (by omega)
  obtain ⟨f1, f2, -⟩ := iAd (R 25 (rTop R (R 61 0)).toNat).toNat (by omega)
  have ss1 := rSiteOf_in iH d2.1 d2.2
  have ss2 := rSiteOf_in iH f2.1 f2.2
  have rr := rRef_in R a
  refine x_aload_n 1 C dX4_init_0 rfl rfl ?_
  refine x_objInit 4 C ob_X4_3 ⟨Nat.le_of_ble_eq_true rfl, Nat.le_of_ble_eq_true rfl⟩ dX4_init_1 rfl ?_
  refine x_aload_n 5 C dX4_init_4 rfl rfl ?_
  refine x_aload_n 6 C dX4_init_5 rfl rfl ?_
  refine x_putO 9 700 C fw_X4_9 (fun _ => hin) dX4_init_6 rfl rfl rfl rfl (by assumption) ?_
  refine x_aload_n 10 C dX4_init_9 rfl rfl ?_
  refine x_aload_n 11 C dX4_init_10 rfl rfl ?_
  refine x_getIv 14 1305 C fr_X4_15 dX4_init_11 rfl rfl rfl rfl (by assumption) (by first | assumption | rfl) ?_
  refine x_putI 17 701 C fw_X4_21 (fun _ => hin) dX4_init_14 rfl rfl rfl rfl rfl (by assumption) (by first | exact hRw _ _ | assumption | exact ⟨by omega, by omega⟩ | exact hw.1 _ _ | omega) ?_
  refine x_aload_n 18 C dX4_init_17 rfl rfl ?_
  refine x_aload_n 19 C dX4_init_18 rfl rfl ?_
  refine x_getIv 22 1306 C fr_X4_22 dX4_init_19 rfl rfl rfl rfl (by assumption) (by first | assumption | rfl) ?_
  refine x_putZ 25 702 C fw_X4_26 (fun _ => hin) dX4_init_22 rfl rfl rfl rfl (by assumption) (by first | assumption | omega | exact bI_01 _) ?_
  refine x_aload_n 26 C dX4_init_25 rfl rfl ?_
  refine x_aload_n 27 C dX4_init_26 rfl rfl ?_
  refine x_getIv 30 1307 C fr_X4_27 dX4_init_27 rfl rfl rfl rfl (by assumption) (by first | assumption | rfl) ?_
  refine x_putZ 33 703 C fw_X4_30 (fun _ => hin) dX4_init_30 rfl rfl rfl rfl (by assumption) hz.2 ?_
  refine x_aload_n 34 C dX4_init_33 rfl rfl ?_
  refine x_joinv 47 (fun vJ => vJ = bI (decide (R 62 0 = 2))) ?_ (fun hJ47 => ?_)
  · intro vJ hJ
    subst hJ
    refine x_putZ 50 704 C fw_X4_34 (fun _ => hin) dX4_init_47 rfl rfl rfl rfl (by assumption) (bI_01 _) ?_
    obtain ⟨G5, hG5⟩ : ∃ G5 : GT, G5 = sI (sI (sI (sI (sP G 700 x (some (rkAt G (B 2) a))) 701 x me) 702 x ta0) 703 x af0) 704 x (bI (decide (R 62 0 = 2))) := ⟨_, rfl⟩
    refine x_as (G' := G5) hG5 rfl rfl ?_
    have hF5 : rkFr [700, 701, 702, 703, 704] [] G G5 := by (rw [hG5]; exact fr_sI (by decide) (by decide) (fr_sI (by decide) (by decide) (fr_sI (by decide) (by decide) (fr_sI (by decide) (by decide) (fr_sP (by decide) (by decide) fr_rfl)))))
    have hW5 := rkW_fr hW hF5 (by decide) ⟨List.not_mem_nil, List.not_mem_nil, List.not_mem_nil⟩ (fun x z => by cases z)
    have el1 := hF5.2.2.1 (B 1) (by omega) List.not_mem_nil
    have el2 := hF5.2.2.1 (B 2) (by omega) List.not_mem_nil
    have el3 := hF5.2.2.1 (B 3) (by omega) List.not_mem_nil
    have hr5 := rkRq_fr hr hF5 (by decide) el3
    have hk75 : gK G5 x = 7 := (hF5.1 x (by omega)).trans hk7
    have hnv : gI G5 704 x = bI (decide (R 62 0 = 2)) := by (rw [hG5]; exact congrFun (congrFun rk_II 704) x |>.trans u2_s)
    obtain ⟨rk5, r05, -⟩ := id hr5
    obtain ⟨hh25, hh35⟩ := (⟨hW5.2.2.1.2, hW5.2.2.2.1.2⟩ : _ ∧ _)
    have a15 := (hh25 a h0.1 h0.2).1.1
    obtain ⟨t15, t25, -⟩ := hh35 (rTop R (R 61 0)) htp.1 htp.2
    have g15 := (hh35 (R 61 0) h61.1 h61.2).1
    have n15 := (hh25 (R 25 (rTop R (R 61 0)).toNat) v1.1 v1.2).1.1
    refine x_as rfl (by rw [← rkAt_same el2 a]) rfl ?_
    refine x_aload_n 51 C dX4_init_50 rfl rfl ?_
    refine x_joinv 78 (fun vJ => vJ = rkPm (rWhere R a)) ?_ (fun hJ78 => ?_)
    · intro vJ hJ
      subst hJ
      refine x_putI 81 705 C fw_X4_54 (fun _ => hin) dX4_init_78 rfl rfl rfl rfl rfl (by assumption) (by have hq7 : rkPm (rWhere R a) = 2 * rSiteOf R (R 9 a.toNat) + R 8 a.toNat ∨ rkPm (rWhere R a) = 2 * rSiteOf R (R 9 (R 25 (rTop R (R 61 0)).toNat).toNat) + R 8 (R 25 (rTop R (R 61 0)).toNat).toNat := (by unfold rWhere; split; exact Or.inl pl1.symm; exact Or.inr pl2.symm); have := iH.1; exact ⟨by omega, by omega⟩) ?_
      obtain ⟨G6, hG6⟩ : ∃ G6 : GT, G6 = sI G5 705 x (rkPm (rWhere R a)) := ⟨_, rfl⟩
      refine x_as (G' := G6) hG6 rfl rfl ?_
      have hF6 : rkFr [705] [] G5 G6 := by (rw [hG6]; exact fr_sI (by decide) (by decide) fr_rfl)
      have hW6 := rkW_fr hW5 hF6 (by decide) ⟨List.not_mem_nil, List.not_mem_nil, List.not_mem_nil⟩ (fun x z => by cases z)
      have el26 := hF6.2.2.1 (B 2) (by have := hW5.1.2.1.2.1; omega) List.not_mem_nil
      have el36 := hF6.2.2.1 (B 3) (by have := hW5.1.2.1.2.2.1; omega) List.not_mem_nil
      obtain ⟨rk6, r06, -⟩ := id (rkRq_fr hr5 hF6 (by decide) el36)
      have hk76 : gK G6 x = 7 := (hF6.1 x (by omega)).trans hk75
      have g16 := (hW6.2.2.2.1.2 (R 61 0) h61.1 h61.2).1
      refine x_as rfl (by rw [← rkAt_same el26 a]) rfl ?_
      refine x_aload_n 82 C dX4_init_81 rfl rfl ?_
      refine x_aload_n 83 C dX4_init_82 rfl rfl ?_
      refine x_getO 86 1300 C fr_X4_43 dX4_init_83 rfl rfl rfl rfl (by assumption) (by assumption) ?_
      refine x_aload_n 87 C dX4_init_86 rfl rfl ?_
      refine x_callV (As := [_]) 90 10 1 10 C vw_X4_57 iw_X7_referrerTo sw_X7_referrerTo (c_X7_referrerTo hW6 h61 h0) dX4_init_87 rfl rfl rfl rfl rfl rfl (by assumption) ⟨Nat.le_of_ble_eq_true rfl, Nat.le_of_ble_eq_true rfl⟩ (Nat.le_of_ble_eq_true rfl) ⟨Nat.le_refl _, Nat.le_refl _⟩ (fun v G' hq => ?_)
      obtain ⟨rfl, hG9⟩ := hq
      replace hG9 := hG9.symm
      subst hG9
      refine x_as rfl rfl rfl ?_
      refine x_putI 93 706 C fw_X4_61 (fun _ => hin) dX4_init_90 rfl rfl rfl rfl rfl (by assumption) (by first | exact hRw _ _ | assumption | exact ⟨by omega, by omega⟩ | exact hw.1 _ _ | omega) ?_
      refine x_aload_n 94 C dX4_init_93 rfl rfl ?_
      refine x_bipush 96 C dX4_init_94 rfl (by decide) ?_
      refine x_newA (kc0 := 0) (ks0 := 0) 98 C (aw_i 1112 (by decide +kernel) rfl) dX4_init_96 rfl ⟨by omega, by omega⟩ (fun q96 hq96 => ?_)
      have hk7q : gK (nA (sI G6 706 x (rRef R a)) q96) x = 7 := (if_neg (fun z => by (have z2 : gK G6 q96 = 0 := hq96; rw [← z] at z2; omega))).trans hk76
      refine x_putO 101 707 C fw_X4_64 (fun _ => hin) dX4_init_98 rfl rfl rfl rfl (by assumption) ?_
      exact x_ret C dX4_init_101 ⟨rfl, q96, (by have z1 : gK G6 q96 = 0 := hq96; have z2 := fr_q hF6 z1; exact fr_q hF5 z2), by rw [hG6, hG5]; rfl⟩
    · skip
      refine x_aload_n 52 C dX4_init_51 rfl rfl ?_
      refine x_getIv 55 704 C fr_X4_34 dX4_init_52 rfl rfl rfl rfl (by assumption) hnv ?_
      refine x_if_eqB 58 65 C dX4_init_55 rfl (by decide) (fun h55 => ?_) (fun h55 => ?_)
      · skip
        refine x_aload_n 66 C dX4_init_65 rfl rfl ?_
        refine x_getO 69 1300 C fr_X4_43 dX4_init_66 rfl rfl rfl rfl (by assumption) (by assumption) ?_
        refine x_callV (As := []) 72 10 1 10 C vw_X4_47 iw_X7_top sw_X7_top (c_X7_top hW5 h61) dX4_init_69 rfl rfl rfl rfl rfl rfl (by assumption) ⟨Nat.le_of_ble_eq_true rfl, Nat.le_of_ble_eq_true rfl⟩ (Nat.le_of_ble_eq_true rfl) ⟨Nat.le_refl _, Nat.le_refl _⟩ (fun v G' hq => ?_)
        obtain ⟨rfl, hG9⟩ := hq
        replace hG9 := hG9.symm
        subst hG9
        refine x_as rfl rfl rfl ?_
        refine x_getO 75 1000 C fr_X4_53 dX4_init_72 rfl rfl rfl rfl (by assumption) (by assumption) ?_
        refine x_callV (As := []) 78 3 1 10 C vw_X4_37 iw_X0_siteCode sw_X0_siteCode (c_X0_siteCode hW5 v1) dX4_init_75 rfl rfl rfl rfl rfl rfl (by assumption) ⟨Nat.le_of_ble_eq_true rfl, Nat.le_of_ble_eq_true rfl⟩ (Nat.le_of_ble_eq_true rfl) ⟨Nat.le_refl _, Nat.le_refl _⟩ (fun v G' hq => ?_)
        obtain ⟨rfl, hG9⟩ := hq
        replace hG9 := hG9.symm
        subst hG9
        refine x_as rfl rfl rfl ?_
        exact hJ78 _ (by unfold rWhere; first | (rw [if_pos (of_decide_eq_true h55)]; omega) | (rw [if_neg (of_decide_eq_false h55)]; omega))
      · skip
        refine x_aload_n 59 C dX4_init_58 rfl rfl ?_
        refine x_callV (As := []) 62 3 1 10 C vw_X4_37 iw_X0_siteCode sw_X0_siteCode (c_X0_siteCode hW5 h0) dX4_init_59 rfl rfl rfl rfl rfl rfl (by assumption) ⟨Nat.le_of_ble_eq_true rfl, Nat.le_of_ble_eq_true rfl⟩ (Nat.le_of_ble_eq_true rfl) ⟨Nat.le_refl _, Nat.le_refl _⟩ (fun v G' hq => ?_)
        obtain ⟨rfl, hG9⟩ := hq
        replace hG9 := hG9.symm
        subst hG9
        refine x_as rfl rfl rfl ?_
        refine x_goto 78 C dX4_init_62 (by decide) ?_
        exact hJ78 _ (by unfold rWhere; first | (rw [if_pos (of_decide_eq_true h55)]; omega) | (rw [if_neg (of_decide_eq_false h55)]; omega))
  · skip
    refine x_aload_n 35 C dX4_init_34 rfl rfl ?_
    refine x_getIv 38 1301 C fr_X4_31 dX4_init_35 rfl rfl rfl rfl (by assumption) (by first | assumption | rfl) ?_
    refine x_iconst 39 C dX4_init_38 rfl ?_
    refine x_icmp_ne 42 46 C dX4_init_39 rfl (by decide) (by first | exact hRw _ _ | assumption | exact ⟨by omega, by omega⟩ | exact hw.1 _ _ | omega) (by first | exact hRw _ _ | assumption | exact ⟨by omega, by omega⟩ | exact hw.1 _ _ | omega) (fun h39 => ?_) (fun h39 => ?_)
    · skip
      refine x_iconst 47 C dX4_init_46 rfl ?_
      exact hJ47 _ (by first | (rw [decide_eq_false h39]; rfl) | (rw [decide_eq_true (show R 62 0 = 2 by omega)]; rfl))
    · skip
      refine x_iconst 43 C dX4_init_42 rfl ?_
      refine x_goto 47 C dX4_init_43 (by decide) ?_
      exact hJ47 _ (by first | (rw [decide_eq_false h39]; rfl) | (rw [decide_eq_true (show R 62 0 = 2 by omega)]; rfl))
