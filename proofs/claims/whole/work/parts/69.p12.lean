/-! rows laid by program (wip/tools/genp.py) -/
def rkSnt (R : RT) (bl f w ho al pt a me af nv qt : Int) : Bool := ((decide (ho = R 9 a.toNat) || (decide (al = 0) && rIn R (R 9 a.toNat) ho)) && (rBegins w (R 11 a.toNat) && (decide (pt = -1) || decide (pt = qt)))) && ((!rHas f 1 || decide (R 8 a.toNat = 1)) && (decide (af = 0) || rkSfa bl nv f pt me))
def rkFoh (R : RT) (ho al a : Int) : Bool := decide (¬ al = 0) || (decide (R 6 ho.toNat = 0) && rIn R (R 9 a.toNat) ho)
def rkUns (R : RT) (f w dd a : Int) : Bool := if rHas f 1 = true then (decide (R 8 a.toNat = 0) || (rHas f 32 && (decide (¬ dd = -1) || decide (¬ w = 0)))) else (!(rHas f 4 || rHas f 8) || (rHas f 2 || (rHas f 16 || rHas f 32)))
def rkFar (bl f af nv : Int) : Bool := (decide (¬ af = 0) && decide (nv = 0)) && ((rHas f 4 || rHas f 8) || (decide (¬ bl = 0) && !rHas f 2))
def rkOwn (R : RT) (dd a : Int) : Bool := decide (dd = -1) || (decide (¬ R 6 dd.toNat = 0) && decide (dd = R 9 a.toNat))
def rkNewC (G : GT) (B : Nat → Nat) (R : RT) (x c : Nat) (f t dd a qt nw : Int) : GT := sI (sI (sP (sI (sP (nO G x 5) 500 x (some c)) 502 x (bI (rkOwn R dd a))) 501 x (some (rkAt G (B 1) (if rkOwn R dd a = true then R 9 a.toNat else dd)))) 503 x (if rHas f 2 = true then qt else -1)) 504 x (nw + t)
set_option maxHeartbeats 2000000 in
set_option maxRecDepth 100000 in
theorem c_X6_isSent {E : EV} {l : Launch} {G : GT} {B : Nat → Nat} {R : RT} (hW : rkW G B R) {bl : Int} (hb : InR bl) {x : Nat} {n v w f t ho al pt go : Int} (hx : rkCo G B x n v w f t ho al pt go) {hp : Nat} {a me ta af nv qt : Int} (hh : rkHv G B hp a me ta af nv qt) (h0 : 0 ≤ a ∧ a < R 7 0) (ho1 : 0 ≤ ho ∧ ho < R 3 0) (hw2 : 0 ≤ w ∧ w ≤ 999) : MT E l yX6_isSent cX6_isSent 5 (some .boolean) 3 63 0 0 [.ref x, .ref hp, .int (i32 bl)] (G) (pD (some (.int (i32 (bI (rkSnt R bl f w ho al pt a me af nv qt))))) (G)) := by
  refine mt_of (own := RX6) (L := [some (.ref x), some (.ref hp), some (.int (i32 bl)), none, none]) (by decide +kernel) rfl (Nat.le_of_ble_eq_true rfl) (List.forall_mem_cons.mpr ⟨rfl, (List.forall_mem_cons.mpr ⟨rfl, (List.forall_mem_cons.mpr ⟨rfl, (fun _ h => absurd h List.not_mem_nil)⟩)⟩)⟩) rfl ?_
  intro p e s m args below meth c C hin
  refine x_wf (fun hw => ?_)
  obtain ⟨hB, hH, hA, hP, hI⟩ := id hW
  obtain ⟨⟨b0, b6, b7⟩, ⟨bk1, bk2, bk3, bk4, bk5, bk8, bk9⟩, ⟨bp0, bp1, bp2, bp3, bp4, bp5, bp6, bp7, bp8⟩, -⟩ := id hB
  obtain ⟨hl1, hh1⟩ := id hH
  obtain ⟨hl2, hh2⟩ := id hA
  obtain ⟨hl3, hh3⟩ := id hP
  obtain ⟨iH, iA, iAd, iHl, iP, iS, hRw, iU⟩ := id hI
  have iH1 := iH.1
  have iA1 := iA.1
  have iA2 := iA.2
  have iP1 := iP.1
  obtain ⟨ck, ⟨cl, cp, lk, l0, l1, l3, l4, l5⟩, cq, c2, c3, c4⟩ := id hx
  have rn : InR n := by (rw [← l0]; exact hw.1 _ _)
  have rv : InR v := by (rw [← l1]; exact hw.1 _ _)
  have rw : InR w := by (rw [← l3]; exact hw.1 _ _)
  have rf : InR f := by (rw [← l4]; exact hw.1 _ _)
  have rt : InR t := by (rw [← l5]; exact hw.1 _ _)
  have ral : InR al := by (rw [← c2]; exact hw.1 _ _)
  have rpt : InR pt := by (rw [← c3]; exact hw.1 _ _)
  have rgo : InR go := by (rw [← c4]; exact hw.1 _ _)
  obtain ⟨hk, hp0, hp1, hp2, hp3, hp4, hp5⟩ := id hh
  have rme : InR me := by (rw [← hp1]; exact hw.1 _ _)
  have rta : InR ta := by (rw [← hp2]; exact hw.1 _ _)
  have raf : InR af := by (rw [← hp3]; exact hw.1 _ _)
  have rnv : InR nv := by (rw [← hp4]; exact hw.1 _ _)
  have rqt : InR qt := by (rw [← hp5]; exact hw.1 _ _)
  obtain ⟨⟨a1, a2, a3, a4, a5, a6⟩, -⟩ := hh2 a h0.1 h0.2
  obtain ⟨d1, d2, d3, d4, -⟩ := iAd a.toNat (by omega)
  have gk1 := (hh1 ho ho1.1 ho1.2).1
  have gk2 := (hh1 (R 9 a.toNat) d2.1 d2.2).1
  refine x_aload_n 1 C dX6_isSent_0 rfl rfl ?_
  refine x_getO 4 700 C fr_X6_66 dX6_isSent_1 rfl rfl rfl rfl (by assumption) (by assumption) ?_
  refine x_astore_n 5 C dX6_isSent_4 rfl rfl rfl ?_
  refine x_joinv 42 (fun vJ => vJ = bI (decide (ho = R 9 a.toNat) || (decide (al = 0) && rIn R (R 9 a.toNat) ho))) ?_ (fun hJ42 => ?_)
  · intro vJ hJ
    subst hJ
    refine x_istore 44 C dX6_isSent_42 rfl rfl rfl ?_
    refine x_iload 46 C dX6_isSent_44 rfl rfl ?_
    refine x_if_eqB 49 74 C dX6_isSent_46 rfl (by decide) (fun h46 => ?_) (fun h46 => ?_)
    · skip
      refine x_iconst 75 C dX6_isSent_74 rfl ?_
      exact x_iret C dX6_isSent_75 rfl ⟨vi (by unfold rkSnt; rw [h46]; rfl), rfl⟩
    · skip
      refine x_aload_n 50 C dX6_isSent_49 rfl rfl ?_
      refine x_getIv 53 304 C fr_X6_87 dX6_isSent_50 rfl rfl rfl rfl (by assumption) (by first | assumption | rfl) ?_
      refine x_aload_n 54 C dX6_isSent_53 rfl rfl ?_
      refine x_getO 57 500 C fr_X6_40 dX6_isSent_54 rfl rfl rfl rfl (by assumption) (by assumption) ?_
      refine x_getIv 60 603 C fr_X6_44 dX6_isSent_57 rfl rfl rfl rfl (by assumption) (by first | assumption | rfl) ?_
      refine x_callS (As := [_, _]) 63 0 0 C vw_X6_88 tw_X11_beginsWith (c_X11_beginsWith (by omega) (by omega)) dX6_isSent_60 rfl rfl rfl ⟨Nat.le_of_ble_eq_true rfl, Nat.le_of_ble_eq_true rfl⟩ (Nat.le_of_ble_eq_true rfl) ⟨Nat.le_refl _, Nat.le_refl _⟩ (fun v G' hq => ?_)
      obtain ⟨rfl, hG9⟩ := hq
      replace hG9 := hG9.symm
      subst hG9
      refine x_as rfl rfl rfl ?_
      refine x_if_eqB 66 74 C dX6_isSent_63 rfl (by decide) (fun h63 => ?_) (fun h63 => ?_)
      · skip
        refine x_iconst 75 C dX6_isSent_74 rfl ?_
        exact x_iret C dX6_isSent_75 rfl ⟨vi (by unfold rkSnt; rw [h46, h63]; rfl), rfl⟩
      · skip
        refine x_aload_n 67 C dX6_isSent_66 rfl rfl ?_
        refine x_aload_n 68 C dX6_isSent_67 rfl rfl ?_
        refine x_callV (As := [_]) 71 5 0 0 C vw_X6_92 iw_X2_isSeenAt sw_X2_isSeenAt (c_X2_isSeenAt (by assumption) (by assumption)) dX6_isSent_68 rfl rfl rfl rfl rfl rfl (by assumption) ⟨Nat.le_of_ble_eq_true rfl, Nat.le_of_ble_eq_true rfl⟩ (Nat.le_of_ble_eq_true rfl) ⟨Nat.le_refl _, Nat.le_refl _⟩ (fun v G' hq => ?_)
        obtain ⟨rfl, hG9⟩ := hq
        replace hG9 := hG9.symm
        subst hG9
        refine x_as rfl rfl rfl ?_
        refine x_if_neB 74 76 C dX6_isSent_71 rfl (by decide) (fun h71 => ?_) (fun h71 => ?_)
        · skip
          refine x_aload_n 77 C dX6_isSent_76 rfl rfl ?_
          refine x_getO 80 500 C fr_X6_40 dX6_isSent_77 rfl rfl rfl rfl (by assumption) (by assumption) ?_
          refine x_iconst 81 C dX6_isSent_80 rfl ?_
          refine x_callV (As := [_]) 84 6 0 0 C vw_X6_96 iw_X3_has sw_X3_has (c_X3_has (by assumption) (by assumption) ⟨by omega, by omega⟩) dX6_isSent_81 rfl rfl rfl rfl rfl rfl (by assumption) ⟨Nat.le_of_ble_eq_true rfl, Nat.le_of_ble_eq_true rfl⟩ (Nat.le_of_ble_eq_true rfl) ⟨Nat.le_refl _, Nat.le_refl _⟩ (fun v G' hq => ?_)
          obtain ⟨rfl, hG9⟩ := hq
          replace hG9 := hG9.symm
          subst hG9
          refine x_as rfl rfl rfl ?_
          refine x_if_eqB 87 97 C dX6_isSent_84 rfl (by decide) (fun h84 => ?_) (fun h84 => ?_)
          · skip
            refine x_joinv 118 (fun vJ => vJ = bI (decide (af = 0) || rkSfa bl nv f pt me)) ?_ (fun hJ118 => ?_)
            · intro vJ hJ
              subst hJ
              exact x_iret C dX6_isSent_118 (by first | rfl | exact nar_b _ | exact nar_01 (by first | assumption | omega)) ⟨vi (by unfold rkSnt; rw [h46, h63, h71, h84]; rfl), rfl⟩
            · skip
              refine x_aload_n 98 C dX6_isSent_97 rfl rfl ?_
              refine x_getIv 101 703 C fr_X6_102 dX6_isSent_98 rfl rfl rfl rfl (by assumption) (by first | assumption | rfl) ?_
              refine x_if_eq 104 113 C dX6_isSent_101 rfl (by decide) (by first | exact hRw _ _ | assumption | exact ⟨by omega, by omega⟩ | exact hw.1 _ _ | omega) (fun h101 => ?_) (fun h101 => ?_)
              · skip
                refine x_iconst 114 C dX6_isSent_113 rfl ?_
                refine x_goto 118 C dX6_isSent_114 (by decide) ?_
                exact hJ118 _ (by first | (rw [decide_eq_true h101]; rfl) | (rw [decide_eq_false h101, h110]; rfl))
              · skip
                refine x_aload_n 105 C dX6_isSent_104 rfl rfl ?_
                refine x_aload_n 106 C dX6_isSent_105 rfl rfl ?_
                refine x_iload_n 107 C dX6_isSent_106 rfl rfl ?_
                refine x_callS (As := [_, _, _]) 110 0 0 C vw_X6_105 tw_X6_isSentFromAfar (c_X6_isSentFromAfar (by assumption) (by assumption) (by assumption)) dX6_isSent_107 rfl rfl rfl ⟨Nat.le_of_ble_eq_true rfl, Nat.le_of_ble_eq_true rfl⟩ (Nat.le_of_ble_eq_true rfl) ⟨Nat.le_refl _, Nat.le_refl _⟩ (fun v G' hq => ?_)
                obtain ⟨rfl, hG9⟩ := hq
                replace hG9 := hG9.symm
                subst hG9
                refine x_as rfl rfl rfl ?_
                refine x_if_eqB 113 117 C dX6_isSent_110 rfl (by decide) (fun h110 => ?_) (fun h110 => ?_)
                · skip
                  refine x_iconst 118 C dX6_isSent_117 rfl ?_
                  exact hJ118 _ (by first | (rw [decide_eq_true h101]; rfl) | (rw [decide_eq_false h101, h110]; rfl))
                · skip
                  refine x_iconst 114 C dX6_isSent_113 rfl ?_
                  refine x_goto 118 C dX6_isSent_114 (by decide) ?_
                  exact hJ118 _ (by first | (rw [decide_eq_true h101]; rfl) | (rw [decide_eq_false h101, h110]; rfl))
          · skip
            refine x_aload_n 88 C dX6_isSent_87 rfl rfl ?_
            refine x_getIv 91 301 C fr_X6_99 dX6_isSent_88 rfl rfl rfl rfl (by assumption) (by first | assumption | rfl) ?_
            refine x_iconst 92 C dX6_isSent_91 rfl ?_
            refine x_icmp_eq 95 97 C dX6_isSent_92 rfl (by decide) (by first | exact hRw _ _ | assumption | exact ⟨by omega, by omega⟩ | exact hw.1 _ _ | omega) (by first | exact hRw _ _ | assumption | exact ⟨by omega, by omega⟩ | exact hw.1 _ _ | omega) (fun h92 => ?_) (fun h92 => ?_)
            · skip
              refine x_joinv 118 (fun vJ => vJ = bI (decide (af = 0) || rkSfa bl nv f pt me)) ?_ (fun hJ118 => ?_)
              · intro vJ hJ
                subst hJ
                exact x_iret C dX6_isSent_118 (by first | rfl | exact nar_b _ | exact nar_01 (by first | assumption | omega)) ⟨vi (by unfold rkSnt; rw [h46, h63, h71, decide_eq_true h92, Bool.or_true]; rfl), rfl⟩
              · skip
                refine x_aload_n 98 C dX6_isSent_97 rfl rfl ?_
                refine x_getIv 101 703 C fr_X6_102 dX6_isSent_98 rfl rfl rfl rfl (by assumption) (by first | assumption | rfl) ?_
                refine x_if_eq 104 113 C dX6_isSent_101 rfl (by decide) (by first | exact hRw _ _ | assumption | exact ⟨by omega, by omega⟩ | exact hw.1 _ _ | omega) (fun h101 => ?_) (fun h101 => ?_)
                · skip
                  refine x_iconst 114 C dX6_isSent_113 rfl ?_
                  refine x_goto 118 C dX6_isSent_114 (by decide) ?_
                  exact hJ118 _ (by first | (rw [decide_eq_true h101]; rfl) | (rw [decide_eq_false h101, h110]; rfl))
                · skip
                  refine x_aload_n 105 C dX6_isSent_104 rfl rfl ?_
                  refine x_aload_n 106 C dX6_isSent_105 rfl rfl ?_
                  refine x_iload_n 107 C dX6_isSent_106 rfl rfl ?_
                  refine x_callS (As := [_, _, _]) 110 0 0 C vw_X6_105 tw_X6_isSentFromAfar (c_X6_isSentFromAfar (by assumption) (by assumption) (by assumption)) dX6_isSent_107 rfl rfl rfl ⟨Nat.le_of_ble_eq_true rfl, Nat.le_of_ble_eq_true rfl⟩ (Nat.le_of_ble_eq_true rfl) ⟨Nat.le_refl _, Nat.le_refl _⟩ (fun v G' hq => ?_)
                  obtain ⟨rfl, hG9⟩ := hq
                  replace hG9 := hG9.symm
                  subst hG9
                  refine x_as rfl rfl rfl ?_
                  refine x_if_eqB 113 117 C dX6_isSent_110 rfl (by decide) (fun h110 => ?_) (fun h110 => ?_)
                  · skip
                    refine x_iconst 118 C dX6_isSent_117 rfl ?_
                    exact hJ118 _ (by first | (rw [decide_eq_true h101]; rfl) | (rw [decide_eq_false h101, h110]; rfl))
                  · skip
                    refine x_iconst 114 C dX6_isSent_113 rfl ?_
                    refine x_goto 118 C dX6_isSent_114 (by decide) ?_
                    exact hJ118 _ (by first | (rw [decide_eq_true h101]; rfl) | (rw [decide_eq_false h101, h110]; rfl))
            · skip
              refine x_iconst 96 C dX6_isSent_95 rfl ?_
              exact x_iret C dX6_isSent_96 rfl ⟨vi (by unfold rkSnt; rw [h46, h63, h71, h84, decide_eq_false h92]; rfl), rfl⟩
        · skip
          refine x_iconst 75 C dX6_isSent_74 rfl ?_
          exact x_iret C dX6_isSent_75 rfl ⟨vi (by unfold rkSnt; rw [h46, h63, h71]; rfl), rfl⟩
  · skip
    refine x_aload_n 6 C dX6_isSent_5 rfl rfl ?_
    refine x_getO 9 501 C fr_X6_70 dX6_isSent_6 rfl rfl rfl rfl (by assumption) (by assumption) ?_
    refine x_aload_n 10 C dX6_isSent_9 rfl rfl ?_
    refine x_getO 13 302 C fr_X6_74 dX6_isSent_10 rfl rfl rfl rfl (by assumption) (by assumption) ?_
    refine x_acmp_eq (rx := some _) (ry := some _) 16 37 C dX6_isSent_13 rfl (by decide) (fun h13 => ?_) (fun h13 => ?_)
    · skip
      have heq : ho = R 9 a.toNat := rkAt_inj (f := 800) (fun i a b => (hh1 i a b).2.1) ho1 d2 (Option.some.inj h13)
      refine x_iconst 38 C dX6_isSent_37 rfl ?_
      refine x_goto 42 C dX6_isSent_38 (by decide) ?_
      exact hJ42 _ (by first | (rw [decide_eq_true heq]; rfl) | (rw [decide_eq_false hne, decide_eq_true h20, h34]; rfl) | (rw [decide_eq_false hne, decide_eq_false h20]; rfl))
    · skip
      have hne : ¬ ho = R 9 a.toNat := fun z => h13 (by rw [z])
      refine x_aload_n 17 C dX6_isSent_16 rfl rfl ?_
      refine x_getIv 20 502 C fr_X6_77 dX6_isSent_17 rfl rfl rfl rfl (by assumption) (by first | assumption | rfl) ?_
      refine x_if_ne 23 41 C dX6_isSent_20 rfl (by decide) (by first | exact hRw _ _ | assumption | exact ⟨by omega, by omega⟩ | exact hw.1 _ _ | omega) (fun h20 => ?_) (fun h20 => ?_)
      · skip
        refine x_iconst 42 C dX6_isSent_41 rfl ?_
        exact hJ42 _ (by first | (rw [decide_eq_true heq]; rfl) | (rw [decide_eq_false hne, decide_eq_true h20, h34]; rfl) | (rw [decide_eq_false hne, decide_eq_false h20]; rfl))
      · skip
        refine x_aload_n 24 C dX6_isSent_23 rfl rfl ?_
        refine x_getO 27 302 C fr_X6_74 dX6_isSent_24 rfl rfl rfl rfl (by assumption) (by assumption) ?_
        refine x_aload_n 28 C dX6_isSent_27 rfl rfl ?_
        refine x_getO 31 501 C fr_X6_70 dX6_isSent_28 rfl rfl rfl rfl (by assumption) (by assumption) ?_
        refine x_callV (As := [_]) 34 8 0 0 C vw_X6_81 iw_X5_isIn sw_X5_isIn (c_X5_isIn hW d2 ho1) dX6_isSent_31 rfl rfl rfl rfl rfl rfl (by assumption) ⟨Nat.le_of_ble_eq_true rfl, Nat.le_of_ble_eq_true rfl⟩ (Nat.le_of_ble_eq_true rfl) ⟨Nat.le_refl _, Nat.le_refl _⟩ (fun v G' hq => ?_)
        obtain ⟨rfl, hG9⟩ := hq
        replace hG9 := hG9.symm
        subst hG9
        refine x_as rfl rfl rfl ?_
        refine x_if_eqB 37 41 C dX6_isSent_34 rfl (by decide) (fun h34 => ?_) (fun h34 => ?_)
        · skip
          refine x_iconst 42 C dX6_isSent_41 rfl ?_
          exact hJ42 _ (by first | (rw [decide_eq_true heq]; rfl) | (rw [decide_eq_false hne, decide_eq_true h20, h34]; rfl) | (rw [decide_eq_false hne, decide_eq_false h20]; rfl))
        · skip
          refine x_iconst 38 C dX6_isSent_37 rfl ?_
          refine x_goto 42 C dX6_isSent_38 (by decide) ?_
          exact hJ42 _ (by first | (rw [decide_eq_true heq]; rfl) | (rw [decide_eq_false hne, decide_eq_true h20, h34]; rfl) | (rw [decide_eq_false hne, decide_eq_false h20]; rfl))
set_option maxHeartbeats 2000000 in
set_option maxRecDepth 100000 in
theorem c_X6_isForOwnHost {E : EV} {l : Launch} {G : GT} {B : Nat → Nat} {R : RT} (hW : rkW G B R) {x : Nat} {n v w f t ho al pt go : Int} (hx : rkCo G B x n v w f t ho al pt go) {hp : Nat} {a me ta af nv qt : Int} (hh : rkHv G B hp a me ta af nv qt) (h0 : 0 ≤ a ∧ a < R 7 0) (ho1 : 0 ≤ ho ∧ ho < R 3 0) : MT E l yX6_isForOwnHost cX6_isForOwnHost 2 (some .boolean) 1 22 0 0 [.ref x, .ref hp] (G) (pD (some (.int (i32 (bI (rkFoh R ho al a))))) (G)) := by
  refine mt_of (own := RX6) (L := [some (.ref x), some (.ref hp)]) (by decide +kernel) rfl (Nat.le_of_ble_eq_true rfl) (List.forall_mem_cons.mpr ⟨rfl, (List.forall_mem_cons.mpr ⟨rfl, (fun _ h => absurd h List.not_mem_nil)⟩)⟩) rfl ?_
  intro p e s m args below meth c C hin
  refine x_wf (fun hw => ?_)
  obtain ⟨hB, hH, hA, hP, hI⟩ := id hW
  obtain ⟨⟨b0, b6, b7⟩, ⟨bk1, bk2, bk3, bk4, bk5, bk8, bk9⟩, ⟨bp0, bp1, bp2, bp3, bp4, bp5, bp6, bp7, bp8⟩, -⟩ := id hB
  obtain ⟨hl1, hh1⟩ := id hH
  obtain ⟨hl2, hh2⟩ := id hA
  obtain ⟨hl3, hh3⟩ := id hP
  obtain ⟨iH, iA, iAd, iHl, iP, iS, hRw, iU⟩ := id hI
  have iH1 := iH.1
  have iA1 := iA.1
  have iA2 := iA.2
  have iP1 := iP.1
  obtain ⟨ck, ⟨cl, cp, lk, l0, l1, l3, l4, l5⟩, cq, c2, c3, c4⟩ := id hx
  have rn : InR n := by (rw [← l0]; exact hw.1 _ _)
  have rv : InR v := by (rw [← l1]; exact hw.1 _ _)
  have rw : InR w := by (rw [← l3]; exact hw.1 _ _)
  have rf : InR f := by (rw [← l4]; exact hw.1 _ _)
  have rt : InR t := by (rw [← l5]; exact hw.1 _ _)
  have ral : InR al := by (rw [← c2]; exact hw.1 _ _)
  have rpt : InR pt := by (rw [← c3]; exact hw.1 _ _)
  have rgo : InR go := by (rw [← c4]; exact hw.1 _ _)
  obtain ⟨hk, hp0, hp1, hp2, hp3, hp4, hp5⟩ := id hh
  have rme : InR me := by (rw [← hp1]; exact hw.1 _ _)
  have rta : InR ta := by (rw [← hp2]; exact hw.1 _ _)
  have raf : InR af := by (rw [← hp3]; exact hw.1 _ _)
  have rnv : InR nv := by (rw [← hp4]; exact hw.1 _ _)
  have rqt : InR qt := by (rw [← hp5]; exact hw.1 _ _)
  obtain ⟨⟨a1, a2, a3, a4, a5, a6⟩, -⟩ := hh2 a h0.1 h0.2
  obtain ⟨d1, d2, d3, d4, -⟩ := iAd a.toNat (by omega)
  obtain ⟨f1, f2, f3, f4, f5, f6⟩ := hh1 ho ho1.1 ho1.2
  have gk2 := (hh1 (R 9 a.toNat) d2.1 d2.2).1
  refine x_joinv 39 (fun vJ => vJ = bI (rkFoh R ho al a)) ?_ (fun hJ39 => ?_)
  · intro vJ hJ
    subst hJ
    exact x_iret C dX6_isForOwnHost_39 (by first | rfl | exact nar_b _ | exact nar_01 (by first | assumption | omega)) ⟨vi (rfl), rfl⟩
  · skip
    refine x_aload_n 1 C dX6_isForOwnHost_0 rfl rfl ?_
    refine x_getIv 4 502 C fr_X6_77 dX6_isForOwnHost_1 rfl rfl rfl rfl (by assumption) (by first | assumption | rfl) ?_
    refine x_if_ne 7 34 C dX6_isForOwnHost_4 rfl (by decide) (by first | exact hRw _ _ | assumption | exact ⟨by omega, by omega⟩ | exact hw.1 _ _ | omega) (fun h4 => ?_) (fun h4 => ?_)
    · skip
      refine x_iconst 35 C dX6_isForOwnHost_34 rfl ?_
      refine x_goto 39 C dX6_isForOwnHost_35 (by decide) ?_
      exact hJ39 _ (by unfold rkFoh; first | (rw [decide_eq_true h4]; rfl) | (rw [decide_eq_false (show ¬ ¬ al = 0 by omega), decide_eq_false h14]; rfl) | (rw [decide_eq_false (show ¬ ¬ al = 0 by omega), decide_eq_true h14, h31]; rfl))
    · skip
      refine x_aload_n 8 C dX6_isForOwnHost_7 rfl rfl ?_
      refine x_getO 11 501 C fr_X6_70 dX6_isForOwnHost_8 rfl rfl rfl rfl (by assumption) (by assumption) ?_
      refine x_getIv 14 804 C fr_X6_158 dX6_isForOwnHost_11 rfl rfl rfl rfl (by assumption) (by first | assumption | rfl) ?_
      refine x_if_ne 17 38 C dX6_isForOwnHost_14 rfl (by decide) (by first | exact hRw _ _ | assumption | exact ⟨by omega, by omega⟩ | exact hw.1 _ _ | omega) (fun h14 => ?_) (fun h14 => ?_)
      · skip
        refine x_iconst 39 C dX6_isForOwnHost_38 rfl ?_
        exact hJ39 _ (by unfold rkFoh; first | (rw [decide_eq_true h4]; rfl) | (rw [decide_eq_false (show ¬ ¬ al = 0 by omega), decide_eq_false h14]; rfl) | (rw [decide_eq_false (show ¬ ¬ al = 0 by omega), decide_eq_true h14, h31]; rfl))
      · skip
        refine x_aload_n 18 C dX6_isForOwnHost_17 rfl rfl ?_
        refine x_getO 21 700 C fr_X6_66 dX6_isForOwnHost_18 rfl rfl rfl rfl (by assumption) (by assumption) ?_
        refine x_getO 24 302 C fr_X6_74 dX6_isForOwnHost_21 rfl rfl rfl rfl (by assumption) (by assumption) ?_
        refine x_aload_n 25 C dX6_isForOwnHost_24 rfl rfl ?_
        refine x_getO 28 501 C fr_X6_70 dX6_isForOwnHost_25 rfl rfl rfl rfl (by assumption) (by assumption) ?_
        refine x_callV (As := [_]) 31 8 0 0 C vw_X6_81 iw_X5_isIn sw_X5_isIn (c_X5_isIn hW d2 ho1) dX6_isForOwnHost_28 rfl rfl rfl rfl rfl rfl (by assumption) ⟨Nat.le_of_ble_eq_true rfl, Nat.le_of_ble_eq_true rfl⟩ (Nat.le_of_ble_eq_true rfl) ⟨Nat.le_refl _, Nat.le_refl _⟩ (fun v G' hq => ?_)
        obtain ⟨rfl, hG9⟩ := hq
        replace hG9 := hG9.symm
        subst hG9
        refine x_as rfl rfl rfl ?_
        refine x_if_eqB 34 38 C dX6_isForOwnHost_31 rfl (by decide) (fun h31 => ?_) (fun h31 => ?_)
        · skip
          refine x_iconst 39 C dX6_isForOwnHost_38 rfl ?_
          exact hJ39 _ (by unfold rkFoh; first | (rw [decide_eq_true h4]; rfl) | (rw [decide_eq_false (show ¬ ¬ al = 0 by omega), decide_eq_false h14]; rfl) | (rw [decide_eq_false (show ¬ ¬ al = 0 by omega), decide_eq_true h14, h31]; rfl))
        · skip
          refine x_iconst 35 C dX6_isForOwnHost_34 rfl ?_
          refine x_goto 39 C dX6_isForOwnHost_35 (by decide) ?_
          exact hJ39 _ (by unfold rkFoh; first | (rw [decide_eq_true h4]; rfl) | (rw [decide_eq_false (show ¬ ¬ al = 0 by omega), decide_eq_false h14]; rfl) | (rw [decide_eq_false (show ¬ ¬ al = 0 by omega), decide_eq_true h14, h31]; rfl))
set_option maxHeartbeats 2000000 in
set_option maxRecDepth 100000 in
theorem c_X6_isUnsafe {E : EV} {l : Launch} {G : GT} {B : Nat → Nat} {R : RT} (hW : rkW G B R) {c1 : Nat} {f w t dd : Int} (hk1 : gK G c1 = 6) (hd1 : gP G 602 c1 = rkOp G (B 1) dd) (hw1 : gI G 603 c1 = w) (hf1 : gI G 604 c1 = f) (ht1 : gI G 605 c1 = t) {hp : Nat} {a me ta af nv qt : Int} (hh : rkHv G B hp a me ta af nv qt) (h0 : 0 ≤ a ∧ a < R 7 0) : MT E l yX6_isUnsafe cX6_isUnsafe 3 (some .boolean) 2 41 0 0 [.ref c1, .ref hp] (G) (pD (some (.int (i32 (bI (rkUns R f w dd a))))) (G)) := by
  refine mt_of (own := RX6) (L := [some (.ref c1), some (.ref hp), none]) (by decide +kernel) rfl (Nat.le_of_ble_eq_true rfl) (List.forall_mem_cons.mpr ⟨rfl, (List.forall_mem_cons.mpr ⟨rfl, (fun _ h => absurd h List.not_mem_nil)⟩)⟩) rfl ?_
  intro p e s m args below meth c C hin
  refine x_wf (fun hw => ?_)
  obtain ⟨hB, hH, hA, hP, hI⟩ := id hW
  obtain ⟨⟨b0, b6, b7⟩, ⟨bk1, bk2, bk3, bk4, bk5, bk8, bk9⟩, ⟨bp0, bp1, bp2, bp3, bp4, bp5, bp6, bp7, bp8⟩, -⟩ := id hB
  obtain ⟨hl1, hh1⟩ := id hH
  obtain ⟨hl2, hh2⟩ := id hA
  obtain ⟨hl3, hh3⟩ := id hP
  obtain ⟨iH, iA, iAd, iHl, iP, iS, hRw, iU⟩ := id hI
  have iH1 := iH.1
  have iA1 := iA.1
  have iA2 := iA.2
  have iP1 := iP.1
  have rw : InR w := by (rw [← hw1]; exact hw.1 _ _)
  have rf : InR f := by (rw [← hf1]; exact hw.1 _ _)
  have rt : InR t := by (rw [← ht1]; exact hw.1 _ _)
  obtain ⟨hk, hp0, hp1, hp2, hp3, hp4, hp5⟩ := id hh
  have rme : InR me := by (rw [← hp1]; exact hw.1 _ _)
  have rta : InR ta := by (rw [← hp2]; exact hw.1 _ _)
  have raf : InR af := by (rw [← hp3]; exact hw.1 _ _)
  have rnv : InR nv := by (rw [← hp4]; exact hw.1 _ _)
  have rqt : InR qt := by (rw [← hp5]; exact hw.1 _ _)
  obtain ⟨⟨a1, a2, a3, a4, a5, a6⟩, -⟩ := hh2 a h0.1 h0.2
  obtain ⟨d1, d2, d3, d4, -⟩ := iAd a.toNat (by omega)
  refine x_aload_n 1 C dX6_isUnsafe_0 rfl rfl ?_
  refine x_iconst 2 C dX6_isUnsafe_1 rfl ?_
  refine x_callV (As := [_]) 5 6 0 0 C vw_X6_96 iw_X3_has sw_X3_has (c_X3_has (by assumption) (by assumption) ⟨by omega, by omega⟩) dX6_isUnsafe_2 rfl rfl rfl rfl rfl rfl (by assumption) ⟨Nat.le_of_ble_eq_true rfl, Nat.le_of_ble_eq_true rfl⟩ (Nat.le_of_ble_eq_true rfl) ⟨Nat.le_refl _, Nat.le_refl _⟩ (fun v G' hq => ?_)
  obtain ⟨rfl, hG9⟩ := hq
  replace hG9 := hG9.symm
  subst hG9
  refine x_as rfl rfl rfl ?_
  refine x_if_eqB 8 57 C dX6_isUnsafe_5 rfl (by decide) (fun h5 => ?_) (fun h5 => ?_)
  · skip
    refine x_joinv 95 (fun vJ => vJ = bI (!(rHas f 4 || rHas f 8) || (rHas f 2 || (rHas f 16 || rHas f 32)))) ?_ (fun hJ95 => ?_)
    · intro vJ hJ
      subst hJ
      exact x_iret C dX6_isUnsafe_95 (by first | rfl | exact nar_b _ | exact nar_01 (by first | assumption | omega)) ⟨vi (by unfold rkUns; rw [if_neg (by rw [h5]; decide)]), rfl⟩
    · skip
      refine x_aload_n 58 C dX6_isUnsafe_57 rfl rfl ?_
      refine x_callV (As := []) 61 6 0 0 C vw_X6_114 iw_X3_isLaxOrStrict sw_X3_isLaxOrStrict (c_X3_isLaxOrStrict (by assumption) (by assumption)) dX6_isUnsafe_58 rfl rfl rfl rfl rfl rfl (by assumption) ⟨Nat.le_of_ble_eq_true rfl, Nat.le_of_ble_eq_true rfl⟩ (Nat.le_of_ble_eq_true rfl) ⟨Nat.le_refl _, Nat.le_refl _⟩ (fun v G' hq => ?_)
      obtain ⟨rfl, hG9⟩ := hq
      replace hG9 := hG9.symm
      subst hG9
      refine x_as rfl rfl rfl ?_
      refine x_if_eqB 64 90 C dX6_isUnsafe_61 rfl (by decide) (fun h61 => ?_) (fun h61 => ?_)
      · skip
        refine x_iconst 91 C dX6_isUnsafe_90 rfl ?_
        refine x_goto 95 C dX6_isUnsafe_91 (by decide) ?_
        exact hJ95 _ (by first | (rw [h61]; rfl) | (rw [h61, h69]; rfl) | (rw [h61, h69, h78]; rfl) | (rw [h61, h69, h78, h87]; rfl))
      · skip
        refine x_aload_n 65 C dX6_isUnsafe_64 rfl rfl ?_
        refine x_iconst 66 C dX6_isUnsafe_65 rfl ?_
        refine x_callV (As := [_]) 69 6 0 0 C vw_X6_96 iw_X3_has sw_X3_has (c_X3_has (by assumption) (by assumption) ⟨by omega, by omega⟩) dX6_isUnsafe_66 rfl rfl rfl rfl rfl rfl (by assumption) ⟨Nat.le_of_ble_eq_true rfl, Nat.le_of_ble_eq_true rfl⟩ (Nat.le_of_ble_eq_true rfl) ⟨Nat.le_refl _, Nat.le_refl _⟩ (fun v G' hq => ?_)
        obtain ⟨rfl, hG9⟩ := hq
        replace hG9 := hG9.symm
        subst hG9
        refine x_as rfl rfl rfl ?_
        refine x_if_neB 72 90 C dX6_isUnsafe_69 rfl (by decide) (fun h69 => ?_) (fun h69 => ?_)
        · skip
          refine x_iconst 91 C dX6_isUnsafe_90 rfl ?_
          refine x_goto 95 C dX6_isUnsafe_91 (by decide) ?_
          exact hJ95 _ (by first | (rw [h61]; rfl) | (rw [h61, h69]; rfl) | (rw [h61, h69, h78]; rfl) | (rw [h61, h69, h78, h87]; rfl))
        · skip
          refine x_aload_n 73 C dX6_isUnsafe_72 rfl rfl ?_
          refine x_bipush 75 C dX6_isUnsafe_73 rfl (by decide) ?_
          refine x_callV (As := [_]) 78 6 0 0 C vw_X6_96 iw_X3_has sw_X3_has (c_X3_has (by assumption) (by assumption) ⟨by omega, by omega⟩) dX6_isUnsafe_75 rfl rfl rfl rfl rfl rfl (by assumption) ⟨Nat.le_of_ble_eq_true rfl, Nat.le_of_ble_eq_true rfl⟩ (Nat.le_of_ble_eq_true rfl) ⟨Nat.le_refl _, Nat.le_refl _⟩ (fun v G' hq => ?_)
          obtain ⟨rfl, hG9⟩ := hq
          replace hG9 := hG9.symm
          subst hG9
          refine x_as rfl rfl rfl ?_
          refine x_if_neB 81 90 C dX6_isUnsafe_78 rfl (by decide) (fun h78 => ?_) (fun h78 => ?_)
          · skip
            refine x_iconst 91 C dX6_isUnsafe_90 rfl ?_
            refine x_goto 95 C dX6_isUnsafe_91 (by decide) ?_
            exact hJ95 _ (by first | (rw [h61]; rfl) | (rw [h61, h69]; rfl) | (rw [h61, h69, h78]; rfl) | (rw [h61, h69, h78, h87]; rfl))
          · skip
            refine x_aload_n 82 C dX6_isUnsafe_81 rfl rfl ?_
            refine x_bipush 84 C dX6_isUnsafe_82 rfl (by decide) ?_
            refine x_callV (As := [_]) 87 6 0 0 C vw_X6_96 iw_X3_has sw_X3_has (c_X3_has (by assumption) (by assumption) ⟨by omega, by omega⟩) dX6_isUnsafe_84 rfl rfl rfl rfl rfl rfl (by assumption) ⟨Nat.le_of_ble_eq_true rfl, Nat.le_of_ble_eq_true rfl⟩ (Nat.le_of_ble_eq_true rfl) ⟨Nat.le_refl _, Nat.le_refl _⟩ (fun v G' hq => ?_)
            obtain ⟨rfl, hG9⟩ := hq
            replace hG9 := hG9.symm
            subst hG9
            refine x_as rfl rfl rfl ?_
            refine x_if_eqB 90 94 C dX6_isUnsafe_87 rfl (by decide) (fun h87 => ?_) (fun h87 => ?_)
            · skip
              refine x_iconst 95 C dX6_isUnsafe_94 rfl ?_
              exact hJ95 _ (by first | (rw [h61]; rfl) | (rw [h61, h69]; rfl) | (rw [h61, h69, h78]; rfl) | (rw [h61, h69, h78, h87]; rfl))
            · skip
              refine x_iconst 91 C dX6_isUnsafe_90 rfl ?_
              refine x_goto 95 C dX6_isUnsafe_91 (by decide) ?_
              exact hJ95 _ (by first | (rw [h61]; rfl) | (rw [h61, h69]; rfl) | (rw [h61, h69, h78]; rfl) | (rw [h61, h69, h78, h87]; rfl))
  · skip
    refine x_joinv 36 (fun vJ => vJ = bI (rHas f 32 && (decide (¬ dd = -1) || decide (¬ w = 0)))) ?_ (fun hJ36 => ?_)
    · intro vJ hJ
      subst hJ
      refine x_istore_n 37 C dX6_isUnsafe_36 rfl rfl rfl ?_
      refine x_joinv 56 (fun vJ => vJ = bI (decide (R 8 a.toNat = 0) || (rHas f 32 && (decide (¬ dd = -1) || decide (¬ w = 0))))) ?_ (fun hJ56 => ?_)
      · intro vJ hJ
        subst hJ
        exact x_iret C dX6_isUnsafe_56 (by first | rfl | exact nar_b _ | exact nar_01 (by first | assumption | omega)) ⟨vi (by unfold rkUns; rw [if_pos h5]), rfl⟩
      · skip
        refine x_aload_n 38 C dX6_isUnsafe_37 rfl rfl ?_
        refine x_getO 41 700 C fr_X6_66 dX6_isUnsafe_38 rfl rfl rfl rfl (by assumption) (by assumption) ?_
        refine x_getIv 44 301 C fr_X6_99 dX6_isUnsafe_41 rfl rfl rfl rfl (by assumption) (by first | assumption | rfl) ?_
        refine x_if_eq 47 51 C dX6_isUnsafe_44 rfl (by decide) (by first | exact hRw _ _ | assumption | exact ⟨by omega, by omega⟩ | exact hw.1 _ _ | omega) (fun h44 => ?_) (fun h44 => ?_)
        · skip
          refine x_iconst 52 C dX6_isUnsafe_51 rfl ?_
          refine x_goto 56 C dX6_isUnsafe_52 (by decide) ?_
          exact hJ56 _ (by first | (rw [decide_eq_true h44]; rfl) | (rw [decide_eq_false h44, h48]; rfl))
        · skip
          refine x_iload_n 48 C dX6_isUnsafe_47 rfl rfl ?_
          refine x_if_eqB 51 55 C dX6_isUnsafe_48 rfl (by decide) (fun h48 => ?_) (fun h48 => ?_)
          · skip
            refine x_iconst 56 C dX6_isUnsafe_55 rfl ?_
            exact hJ56 _ (by first | (rw [decide_eq_true h44]; rfl) | (rw [decide_eq_false h44, h48]; rfl))
          · skip
            refine x_iconst 52 C dX6_isUnsafe_51 rfl ?_
            refine x_goto 56 C dX6_isUnsafe_52 (by decide) ?_
            exact hJ56 _ (by first | (rw [decide_eq_true h44]; rfl) | (rw [decide_eq_false h44, h48]; rfl))
    · skip
      refine x_aload_n 9 C dX6_isUnsafe_8 rfl rfl ?_
      refine x_bipush 11 C dX6_isUnsafe_9 rfl (by decide) ?_
      refine x_callV (As := [_]) 14 6 0 0 C vw_X6_96 iw_X3_has sw_X3_has (c_X3_has (by assumption) (by assumption) ⟨by omega, by omega⟩) dX6_isUnsafe_11 rfl rfl rfl rfl rfl rfl (by assumption) ⟨Nat.le_of_ble_eq_true rfl, Nat.le_of_ble_eq_true rfl⟩ (Nat.le_of_ble_eq_true rfl) ⟨Nat.le_refl _, Nat.le_refl _⟩ (fun v G' hq => ?_)
      obtain ⟨rfl, hG9⟩ := hq
      replace hG9 := hG9.symm
      subst hG9
      refine x_as rfl rfl rfl ?_
      refine x_if_eqB 17 35 C dX6_isUnsafe_14 rfl (by decide) (fun h14 => ?_) (fun h14 => ?_)
      · skip
        refine x_iconst 36 C dX6_isUnsafe_35 rfl ?_
        exact hJ36 _ (by first | (rw [h14, decide_eq_true n21]; rfl) | (rw [h14, decide_eq_false (show ¬ ¬ dd = -1 by omega), decide_eq_true h28]; rfl) | (rw [h14, decide_eq_false (show ¬ ¬ dd = -1 by omega), decide_eq_false (show ¬ ¬ w = 0 by omega)]; rfl) | (rw [h14]; rfl))
      · skip
        refine x_aload_n 18 C dX6_isUnsafe_17 rfl rfl ?_
        refine x_getPv 21 602 C fr_X6_161 dX6_isUnsafe_18 rfl rfl rfl rfl (by assumption) (by first | assumption | rfl) ?_
        refine x_ifnonnull 24 31 C dX6_isUnsafe_21 rfl (by decide) (fun a21 h21 => ?_) (fun h21 => ?_)
        · skip
          have n21 := (rkOp_some h21).1
          refine x_iconst 32 C dX6_isUnsafe_31 rfl ?_
          refine x_goto 36 C dX6_isUnsafe_32 (by decide) ?_
          exact hJ36 _ (by first | (rw [h14, decide_eq_true n21]; rfl) | (rw [h14, decide_eq_false (show ¬ ¬ dd = -1 by omega), decide_eq_true h28]; rfl) | (rw [h14, decide_eq_false (show ¬ ¬ dd = -1 by omega), decide_eq_false (show ¬ ¬ w = 0 by omega)]; rfl) | (rw [h14]; rfl))
        · skip
          have n21 := rkOp_none h21
          refine x_aload_n 25 C dX6_isUnsafe_24 rfl rfl ?_
          refine x_getIv 28 603 C fr_X6_44 dX6_isUnsafe_25 rfl rfl rfl rfl (by assumption) (by first | assumption | rfl) ?_
          refine x_if_eq 31 35 C dX6_isUnsafe_28 rfl (by decide) (by first | exact hRw _ _ | assumption | exact ⟨by omega, by omega⟩ | exact hw.1 _ _ | omega) (fun h28 => ?_) (fun h28 => ?_)
          · skip
            refine x_iconst 36 C dX6_isUnsafe_35 rfl ?_
            exact hJ36 _ (by first | (rw [h14, decide_eq_true n21]; rfl) | (rw [h14, decide_eq_false (show ¬ ¬ dd = -1 by omega), decide_eq_true h28]; rfl) | (rw [h14, decide_eq_false (show ¬ ¬ dd = -1 by omega), decide_eq_false (show ¬ ¬ w = 0 by omega)]; rfl) | (rw [h14]; rfl))
          · skip
            refine x_iconst 32 C dX6_isUnsafe_31 rfl ?_
            refine x_goto 36 C dX6_isUnsafe_32 (by decide) ?_
            exact hJ36 _ (by first | (rw [h14, decide_eq_true n21]; rfl) | (rw [h14, decide_eq_false (show ¬ ¬ dd = -1 by omega), decide_eq_true h28]; rfl) | (rw [h14, decide_eq_false (show ¬ ¬ dd = -1 by omega), decide_eq_false (show ¬ ¬ w = 0 by omega)]; rfl) | (rw [h14]; rfl))
set_option maxHeartbeats 2000000 in
set_option maxRecDepth 100000 in
theorem c_X6_isTooFar {E : EV} {l : Launch} {G : GT} {B : Nat → Nat} {bl f : Int} {c1 : Nat} (hb : InR bl) (hk1 : gK G c1 = 6) (hf1 : gI G 604 c1 = f) {hp : Nat} {a me ta af nv qt : Int} (hh : rkHv G B hp a me ta af nv qt) : MT E l yX6_isTooFar cX6_isTooFar 3 (some .boolean) 2 41 0 0 [.ref c1, .ref hp, .int (i32 bl)] (G) (pD (some (.int (i32 (bI (rkFar bl f af nv))))) (G)) := by
  refine mt_of (own := RX6) (L := [some (.ref c1), some (.ref hp), some (.int (i32 bl))]) (by decide +kernel) rfl (Nat.le_of_ble_eq_true rfl) (List.forall_mem_cons.mpr ⟨rfl, (List.forall_mem_cons.mpr ⟨rfl, (List.forall_mem_cons.mpr ⟨rfl, (fun _ h => absurd h List.not_mem_nil)⟩)⟩)⟩) rfl ?_
  intro p e s m args below meth c C hin
  refine x_wf (fun hw => ?_)
  have rf : InR f := by (rw [← hf1]; exact hw.1 _ _)
  obtain ⟨hk, hp0, hp1, hp2, hp3, hp4, hp5⟩ := id hh
  have rme : InR me := by (rw [← hp1]; exact hw.1 _ _)
  have rta : InR ta := by (rw [← hp2]; exact hw.1 _ _)
  have raf : InR af := by (rw [← hp3]; exact hw.1 _ _)
  have rnv : InR nv := by (rw [← hp4]; exact hw.1 _ _)
  have rqt : InR qt := by (rw [← hp5]; exact hw.1 _ _)
  refine x_aload_n 1 C dX6_isTooFar_0 rfl rfl ?_
  refine x_getIv 4 703 C fr_X6_102 dX6_isTooFar_1 rfl rfl rfl rfl (by assumption) (by first | assumption | rfl) ?_
  refine x_if_eq 7 14 C dX6_isTooFar_4 rfl (by decide) (by first | assumption | exact ⟨by omega, by omega⟩ | exact hw.1 _ _ | omega) (fun h4 => ?_) (fun h4 => ?_)
  · skip
    refine x_iconst 15 C dX6_isTooFar_14 rfl ?_
    exact x_iret C dX6_isTooFar_15 rfl ⟨vi (by unfold rkFar; first | (rw [decide_eq_false (show ¬ ¬ af = 0 by omega)]; rfl) | (rw [decide_eq_false h11, Bool.and_false]; rfl)), rfl⟩
  · skip
    refine x_aload_n 8 C dX6_isTooFar_7 rfl rfl ?_
    refine x_getIv 11 704 C fr_X6_108 dX6_isTooFar_8 rfl rfl rfl rfl (by assumption) (by first | assumption | rfl) ?_
    refine x_if_eq 14 16 C dX6_isTooFar_11 rfl (by decide) (by first | assumption | exact ⟨by omega, by omega⟩ | exact hw.1 _ _ | omega) (fun h11 => ?_) (fun h11 => ?_)
    · skip
      refine x_joinv 40 (fun vJ => vJ = bI ((rHas f 4 || rHas f 8) || (decide (¬ bl = 0) && !rHas f 2))) ?_ (fun hJ40 => ?_)
      · intro vJ hJ
        subst hJ
        exact x_iret C dX6_isTooFar_40 (by first | rfl | exact nar_b _ | exact nar_01 (by first | assumption | omega)) ⟨vi (by unfold rkFar; rw [decide_eq_true h4, decide_eq_true h11]; rfl), rfl⟩
      · skip
        refine x_aload_n 17 C dX6_isTooFar_16 rfl rfl ?_
        refine x_callV (As := []) 20 6 0 0 C vw_X6_114 iw_X3_isLaxOrStrict sw_X3_isLaxOrStrict (c_X3_isLaxOrStrict (by assumption) (by assumption)) dX6_isTooFar_17 rfl rfl rfl rfl rfl rfl (by assumption) ⟨Nat.le_of_ble_eq_true rfl, Nat.le_of_ble_eq_true rfl⟩ (Nat.le_of_ble_eq_true rfl) ⟨Nat.le_refl _, Nat.le_refl _⟩ (fun v G' hq => ?_)
        obtain ⟨rfl, hG9⟩ := hq
        replace hG9 := hG9.symm
        subst hG9
        refine x_as rfl rfl rfl ?_
        refine x_if_neB 23 35 C dX6_isTooFar_20 rfl (by decide) (fun h20 => ?_) (fun h20 => ?_)
        · skip
          refine x_iconst 36 C dX6_isTooFar_35 rfl ?_
          refine x_goto 40 C dX6_isTooFar_36 (by decide) ?_
          exact hJ40 _ (by first | (rw [h20]; rfl) | (rw [h20, decide_eq_true h24, h32]; rfl) | (rw [h20, decide_eq_false (show ¬ ¬ bl = 0 by omega)]; rfl))
        · skip
          refine x_iload_n 24 C dX6_isTooFar_23 rfl rfl ?_
          refine x_if_eq 27 39 C dX6_isTooFar_24 rfl (by decide) (by first | assumption | exact ⟨by omega, by omega⟩ | exact hw.1 _ _ | omega) (fun h24 => ?_) (fun h24 => ?_)
          · skip
            refine x_iconst 40 C dX6_isTooFar_39 rfl ?_
            exact hJ40 _ (by first | (rw [h20]; rfl) | (rw [h20, decide_eq_true h24, h32]; rfl) | (rw [h20, decide_eq_false (show ¬ ¬ bl = 0 by omega)]; rfl))
          · skip
            refine x_aload_n 28 C dX6_isTooFar_27 rfl rfl ?_
            refine x_iconst 29 C dX6_isTooFar_28 rfl ?_
            refine x_callV (As := [_]) 32 6 0 0 C vw_X6_96 iw_X3_has sw_X3_has (c_X3_has (by assumption) (by assumption) ⟨by omega, by omega⟩) dX6_isTooFar_29 rfl rfl rfl rfl rfl rfl (by assumption) ⟨Nat.le_of_ble_eq_true rfl, Nat.le_of_ble_eq_true rfl⟩ (Nat.le_of_ble_eq_true rfl) ⟨Nat.le_refl _, Nat.le_refl _⟩ (fun v G' hq => ?_)
            obtain ⟨rfl, hG9⟩ := hq
            replace hG9 := hG9.symm
            subst hG9
            refine x_as rfl rfl rfl ?_
            refine x_if_neB 35 39 C dX6_isTooFar_32 rfl (by decide) (fun h32 => ?_) (fun h32 => ?_)
            · skip
              refine x_iconst 40 C dX6_isTooFar_39 rfl ?_
              exact hJ40 _ (by first | (rw [h20]; rfl) | (rw [h20, decide_eq_true h24, h32]; rfl) | (rw [h20, decide_eq_false (show ¬ ¬ bl = 0 by omega)]; rfl))
            · skip
              refine x_iconst 36 C dX6_isTooFar_35 rfl ?_
              refine x_goto 40 C dX6_isTooFar_36 (by decide) ?_
              exact hJ40 _ (by first | (rw [h20]; rfl) | (rw [h20, decide_eq_true h24, h32]; rfl) | (rw [h20, decide_eq_false (show ¬ ¬ bl = 0 by omega)]; rfl))
    · skip
      refine x_iconst 15 C dX6_isTooFar_14 rfl ?_
      exact x_iret C dX6_isTooFar_15 rfl ⟨vi (by unfold rkFar; first | (rw [decide_eq_false (show ¬ ¬ af = 0 by omega)]; rfl) | (rw [decide_eq_false h11, Bool.and_false]; rfl)), rfl⟩
set_option maxHeartbeats 2000000 in
set_option maxRecDepth 100000 in
theorem c_X2_init {E : EV} {l : Launch} {G : GT} {B : Nat → Nat} {R : RT} (hW : rkW G B R) {x : Nat} {nw : Int} (hqx : gK G x = 0) {c1 : Nat} {f w t dd : Int} (hk1 : gK G c1 = 6) (hd1 : gP G 602 c1 = rkOp G (B 1) dd) (hw1 : gI G 603 c1 = w) (hf1 : gI G 604 c1 = f) (ht1 : gI G 605 c1 = t) {hp : Nat} {a me ta af nv qt : Int} (hh : rkHv G B hp a me ta af nv qt) (h0 : 0 ≤ a ∧ a < R 7 0) (hdd : -1 ≤ dd ∧ dd < R 3 0) (hnw : 0 ≤ nw ∧ nw ≤ 1000000000) (htt : -1 ≤ t ∧ t ≤ 1000) : MT E l yX2_init cX2_init 5 none 1 21 0 0 [.ref x, .ref c1, .ref hp, .int (i32 nw)] (nO G x 5) (pD none (rkNewC G B R x c1 f t dd a qt nw)) := by
  refine mt_of (own := RX2) (L := [some (.ref x), some (.ref c1), some (.ref hp), some (.int (i32 nw)), none]) (by decide +kernel) rfl (Nat.le_of_ble_eq_true rfl) (List.forall_mem_cons.mpr ⟨rfl, (List.forall_mem_cons.mpr ⟨rfl, (List.forall_mem_cons.mpr ⟨rfl, (List.forall_mem_cons.mpr ⟨rfl, (fun _ h => absurd h List.not_mem_nil)⟩)⟩)⟩)⟩) rfl ?_
  intro p e s m args below meth c C hin
  refine x_wf (fun hw => ?_)
  obtain ⟨hB, hH, hA, hP, hI⟩ := id hW
  obtain ⟨⟨b0, b6, b7⟩, ⟨bk1, bk2, bk3, bk4, bk5, bk8, bk9⟩, ⟨bp0, bp1, bp2, bp3, bp4, bp5, bp6, bp7, bp8⟩, -⟩ := id hB
  obtain ⟨hl1, hh1⟩ := id hH
  obtain ⟨hl2, hh2⟩ := id hA
  obtain ⟨hl3, hh3⟩ := id hP
  obtain ⟨iH, iA, iAd, iHl, iP, iS, hRw, iU⟩ := id hI
  have iH1 := iH.1
  have iA1 := iA.1
  have iA2 := iA.2
  have iP1 := iP.1
  have rw : InR w := by (rw [← hw1, ← nO_I (G := G) (q := x) (k := 5) (by decide)]; exact hw.1 _ _)
  have rf : InR f := by (rw [← hf1, ← nO_I (G := G) (q := x) (k := 5) (by decide)]; exact hw.1 _ _)
  have rt : InR t := by (rw [← ht1, ← nO_I (G := G) (q := x) (k := 5) (by decide)]; exact hw.1 _ _)
  obtain ⟨hk, hp0, hp1, hp2, hp3, hp4, hp5⟩ := id hh
  have rme : InR me := by (rw [← hp1, ← nO_I (G := G) (q := x) (k := 5) (by decide)]; exact hw.1 _ _)
  have rta : InR ta := by (rw [← hp2, ← nO_I (G := G) (q := x) (k := 5) (by decide)]; exact hw.1 _ _)
  have raf : InR af := by (rw [← hp3, ← nO_I (G := G) (q := x) (k := 5) (by decide)]; exact hw.1 _ _)
  have rnv : InR nv := by (rw [← hp4, ← nO_I (G := G) (q := x) (k := 5) (by decide)]; exact hw.1 _ _)
  have rqt : InR qt := by (rw [← hp5, ← nO_I (G := G) (q := x) (k := 5) (by decide)]; exact hw.1 _ _)
  obtain ⟨⟨a1, a2, a3, a4, a5, a6⟩, -⟩ := hh2 a h0.1 h0.2
  obtain ⟨d1, d2, d3, d4, -⟩ := iAd a.toNat (by omega)
  have gk2 := (hh1 (R 9 a.toNat) d2.1 d2.2).1
  have xk : gK (nO G x 5) x = 5 := nO_q
  have nhk := (nO_K (k := 5) (show gK G hp ≠ 0 by omega) hqx).trans hk
  have nck := (nO_K (k := 5) (show gK G c1 ≠ 0 by omega) hqx).trans hk1
  have nak := (nO_K (k := 5) (show gK G (rkAt G (B 2) a) ≠ 0 by omega) hqx).trans a1
  have np0 := (nO_P (G := G) (q := x) (k := 5) (j := 700) (x := hp) (by decide)).trans hp0
  have np5 := (nO_I (G := G) (q := x) (k := 5) (j := 705) (x := hp) (by decide)).trans hp5
  have na4 := (nO_P (G := G) (q := x) (k := 5) (j := 302) (x := rkAt G (B 2) a) (by decide)).trans a4
  have nd1 := (nO_P (G := G) (q := x) (k := 5) (j := 602) (x := c1) (by decide)).trans hd1
  have nf1 := (nO_I (G := G) (q := x) (k := 5) (j := 604) (x := c1) (by decide)).trans hf1
  have nt1 := (nO_I (G := G) (q := x) (k := 5) (j := 605) (x := c1) (by decide)).trans ht1
  refine x_aload_n 1 C dX2_init_0 rfl rfl ?_
  refine x_objInit 4 C ob_X2_3 ⟨Nat.le_of_ble_eq_true rfl, Nat.le_of_ble_eq_true rfl⟩ dX2_init_1 rfl ?_
  refine x_aload_n 5 C dX2_init_4 rfl rfl ?_
  refine x_getO 8 700 C fr_X2_9 dX2_init_5 rfl rfl rfl rfl (by assumption) (by assumption) ?_
  refine x_getO 11 302 C fr_X2_15 dX2_init_8 rfl rfl rfl rfl (by assumption) (by assumption) ?_
  refine x_astore 13 C dX2_init_11 rfl rfl rfl ?_
  refine x_aload_n 14 C dX2_init_13 rfl rfl ?_
  refine x_aload_n 15 C dX2_init_14 rfl rfl ?_
  refine x_putO 18 500 C fw_X2_21 (fun _ => hin) dX2_init_15 rfl rfl rfl rfl (by assumption) ?_
  refine x_aload_n 19 C dX2_init_18 rfl rfl ?_
  refine x_joinv 50 (fun vJ => vJ = bI (rkOwn R dd a)) ?_ (fun hJ50 => ?_)
  · intro vJ hJ
    subst hJ
    refine x_putZ 53 502 C fw_X2_38 (fun _ => hin) dX2_init_50 rfl rfl rfl rfl (by assumption) (by first | assumption | omega | exact bI_01 _) ?_
    refine x_aload_n 54 C dX2_init_53 rfl rfl ?_
    refine x_join (α := Unit) 70 (fun u => True) (fun u => sI (sP (nO G x 5) 500 x (some c1)) 502 x (bI (rkOwn R dd a))) (fun u => [some (.ref x), some (.ref c1), some (.ref hp), some (.int (i32 nw)), some (.ref (rkAt G (B 1) (R 9 a.toNat)))]) (fun u => [.ref (rkAt G (B 1) (if rkOwn R dd a = true then R 9 a.toNat else dd)), .ref x]) ?_ (fun hJ70 => ?_)
    · intro aa hJ
      obtain ⟨u, rfl⟩ := (⟨aa, rfl⟩ : ∃ z, z = aa)
      (try dsimp only at hJ); (try dsimp only)
      refine x_putO 73 501 C fw_X2_41 (fun _ => hin) dX2_init_70 rfl rfl rfl rfl (by assumption) ?_
      refine x_aload_n 74 C dX2_init_73 rfl rfl ?_
      refine x_joinv 90 (fun vJ => vJ = if rHas f 2 = true then qt else -1) ?_ (fun hJ90 => ?_)
      · intro vJ hJ
        subst hJ
        refine x_putI 93 503 C fw_X2_50 (fun _ => hin) dX2_init_90 rfl rfl rfl rfl rfl (by assumption) (by split; exact rqt; exact ⟨by omega, by omega⟩) ?_
        refine x_aload_n 94 C dX2_init_93 rfl rfl ?_
        refine x_iload_n 95 C dX2_init_94 rfl rfl ?_
        refine x_aload_n 96 C dX2_init_95 rfl rfl ?_
        refine x_getIv 99 605 C fr_X2_51 dX2_init_96 rfl rfl rfl rfl (by assumption) (by first | assumption | rfl) ?_
        refine x_iadd 100 C dX2_init_99 rfl ?_
        refine x_putI 103 504 C fw_X2_54 (fun _ => hin) dX2_init_100 rfl rfl rfl rfl rfl (by assumption) ⟨by omega, by omega⟩ ?_
        exact x_ret C dX2_init_103 ⟨rfl, rfl⟩
      · skip
        refine x_aload_n 75 C dX2_init_74 rfl rfl ?_
        refine x_iconst 76 C dX2_init_75 rfl ?_
        refine x_callV (As := [_]) 79 6 0 0 C vw_X2_42 iw_X3_has sw_X3_has (c_X3_has (by assumption) (by assumption) ⟨by omega, by omega⟩) dX2_init_76 rfl rfl rfl rfl rfl rfl (by assumption) ⟨Nat.le_of_ble_eq_true rfl, Nat.le_of_ble_eq_true rfl⟩ (Nat.le_of_ble_eq_true rfl) ⟨Nat.le_refl _, Nat.le_refl _⟩ (fun v G' hq => ?_)
        obtain ⟨rfl, hG9⟩ := hq
        replace hG9 := hG9.symm
        subst hG9
        refine x_as rfl rfl rfl ?_
        refine x_if_eqB 82 89 C dX2_init_79 rfl (by decide) (fun h79 => ?_) (fun h79 => ?_)
        · skip
          refine x_iconst 90 C dX2_init_89 rfl ?_
          exact hJ90 _ (by first | rw [if_pos h79] | rw [if_neg (by rw [h79]; decide)])
        · skip
          refine x_aload_n 83 C dX2_init_82 rfl rfl ?_
          refine x_getIv 86 705 C fr_X2_46 dX2_init_83 rfl rfl rfl rfl (by assumption) (by first | assumption | rfl) ?_
          refine x_goto 90 C dX2_init_86 (by decide) ?_
          exact hJ90 _ (by first | rw [if_pos h79] | rw [if_neg (by rw [h79]; decide)])
    · skip
      refine x_aload_n 55 C dX2_init_54 rfl rfl ?_
      refine x_getIv 58 502 C fr_X2_38 dX2_init_55 rfl rfl rfl rfl xk (show u2 (gI (nO G x 5)) 502 x (bI (rkOwn R dd a)) 502 x = _ from u2_s) ?_
      refine x_if_eqB 61 66 C dX2_init_58 rfl (by decide) (fun h58 => ?_) (fun h58 => ?_)
      · skip
        have hof : rkOwn R dd a = false := h58
        have hdn : ¬ dd = -1 := fun z => by (rw [rkOwn, decide_eq_true z] at hof; cases hof)
        have nd2 := nd1.trans (rkOp_s (show 0 ≤ dd by omega))
        refine x_aload_n 67 C dX2_init_66 rfl rfl ?_
        refine x_getO 70 602 C fr_X2_27 dX2_init_67 rfl rfl rfl rfl (by assumption) (by assumption) ?_
        exact x_as rfl rfl (by rw [if_neg (by rw [hof]; decide)]; try rfl) (hJ70 () trivial)
      · skip
        have hot : rkOwn R dd a = true := h58
        refine x_aload 63 C dX2_init_61 rfl rfl ?_
        refine x_goto 70 C dX2_init_63 (by decide) ?_
        exact x_as rfl rfl (by rw [if_pos hot]; try rfl) (hJ70 () trivial)
  · skip
    refine x_aload_n 20 C dX2_init_19 rfl rfl ?_
    refine x_getPv 23 602 C fr_X2_27 dX2_init_20 rfl rfl rfl rfl (by assumption) (by first | assumption | rfl) ?_
    refine x_ifnull 26 45 C dX2_init_23 rfl (by decide) (fun h23 => ?_) (fun a23 h23 => ?_)
    · skip
      have n23 := rkOp_none h23
      refine x_iconst 46 C dX2_init_45 rfl ?_
      refine x_goto 50 C dX2_init_46 (by decide) ?_
      exact hJ50 _ (by unfold rkOwn; first | (rw [decide_eq_true n23]; rfl) | (rw [decide_eq_false n23.1, decide_eq_true h33, decide_eq_true heq]; rfl) | (rw [decide_eq_false n23.1, decide_eq_false hne, Bool.and_false]; rfl) | (rw [decide_eq_false n23.1, decide_eq_false (show ¬ ¬ R 6 dd.toNat = 0 by omega)]; rfl))
    · skip
      have n23 := rkOp_some h23
      have nd2 := nd1.trans (rkOp_s (show 0 ≤ dd by omega))
      obtain ⟨f1, f2, f3, f4, f5, f6⟩ := hh1 dd (by omega) hdd.2
      have nf6 := (nO_I (G := G) (q := x) (k := 5) (j := 804) (x := rkAt G (B 1) dd) (by decide)).trans f6
      have nfk := (nO_K (k := 5) (show gK G (rkAt G (B 1) dd) ≠ 0 by omega) hqx).trans f1
      refine x_aload_n 27 C dX2_init_26 rfl rfl ?_
      refine x_getO 30 602 C fr_X2_27 dX2_init_27 rfl rfl rfl rfl (by assumption) (by assumption) ?_
      refine x_getIv 33 804 C fr_X2_32 dX2_init_30 rfl rfl rfl rfl nfk (by first | assumption | rfl) ?_
      refine x_if_eq 36 49 C dX2_init_33 rfl (by decide) (by first | exact hRw _ _ | assumption | exact ⟨by omega, by omega⟩ | exact hw.1 _ _ | omega) (fun h33 => ?_) (fun h33 => ?_)
      · skip
        refine x_iconst 50 C dX2_init_49 rfl ?_
        exact hJ50 _ (by unfold rkOwn; first | (rw [decide_eq_true n23]; rfl) | (rw [decide_eq_false n23.1, decide_eq_true h33, decide_eq_true heq]; rfl) | (rw [decide_eq_false n23.1, decide_eq_false hne, Bool.and_false]; rfl) | (rw [decide_eq_false n23.1, decide_eq_false (show ¬ ¬ R 6 dd.toNat = 0 by omega)]; rfl))
      · skip
        refine x_aload_n 37 C dX2_init_36 rfl rfl ?_
        refine x_getO 40 602 C fr_X2_27 dX2_init_37 rfl rfl rfl rfl (by assumption) (by assumption) ?_
        refine x_aload 42 C dX2_init_40 rfl rfl ?_
        refine x_acmp_ne (rx := some _) (ry := some _) 45 49 C dX2_init_42 rfl (by decide) (fun h42 => ?_) (fun h42 => ?_)
        · skip
          have hne : ¬ dd = R 9 a.toNat := fun z => h42 (by rw [z])
          refine x_iconst 50 C dX2_init_49 rfl ?_
          exact hJ50 _ (by unfold rkOwn; first | (rw [decide_eq_true n23]; rfl) | (rw [decide_eq_false n23.1, decide_eq_true h33, decide_eq_true heq]; rfl) | (rw [decide_eq_false n23.1, decide_eq_false hne, Bool.and_false]; rfl) | (rw [decide_eq_false n23.1, decide_eq_false (show ¬ ¬ R 6 dd.toNat = 0 by omega)]; rfl))
        · skip
          have heq : dd = R 9 a.toNat := rkAt_inj (f := 800) (fun i a b => (hh1 i a b).2.1) ⟨by omega, hdd.2⟩ d2 (Option.some.inj h42)
          refine x_iconst 46 C dX2_init_45 rfl ?_
          refine x_goto 50 C dX2_init_46 (by decide) ?_
          exact hJ50 _ (by unfold rkOwn; first | (rw [decide_eq_true n23]; rfl) | (rw [decide_eq_false n23.1, decide_eq_true h33, decide_eq_true heq]; rfl) | (rw [decide_eq_false n23.1, decide_eq_false hne, Bool.and_false]; rfl) | (rw [decide_eq_false n23.1, decide_eq_false (show ¬ ¬ R 6 dd.toNat = 0 by omega)]; rfl))
set_option maxHeartbeats 2000000 in
set_option maxRecDepth 100000 in
theorem c_X6_noteUse {E : EV} {l : Launch} {G : GT} {j x : Nat} {lu : Int} (hj : gK G j = 9) (hx : gK G x = 5) (hl1 : gI G 901 j = lu) (hlu : 0 ≤ lu ∧ lu ≤ 1000000) : MT E l yX6_noteUse cX6_noteUse 2 none 0 0 0 0 [.ref j, .ref x] (G) (pD none (sI (sI G 901 j (lu + 1)) 505 x (lu + 1))) := by
  refine mt_of (own := RX6) (L := [some (.ref j), some (.ref x)]) (by decide +kernel) rfl (Nat.le_of_ble_eq_true rfl) (List.forall_mem_cons.mpr ⟨rfl, (List.forall_mem_cons.mpr ⟨rfl, (fun _ h => absurd h List.not_mem_nil)⟩)⟩) rfl ?_
  intro p e s m args below meth c C hin
  refine x_wf (fun hw => ?_)
  refine x_aload_n 1 C dX6_noteUse_0 rfl rfl ?_
  refine x_dup 2 C dX6_noteUse_1 rfl rfl ?_
  refine x_getIv 5 901 C fr_X6_35 dX6_noteUse_2 rfl rfl rfl rfl (by assumption) (by first | assumption | rfl) ?_
  refine x_iconst 6 C dX6_noteUse_5 rfl ?_
  refine x_iadd 7 C dX6_noteUse_6 rfl ?_
  refine x_putI 10 901 C fw_X6_35 (fun h => by cases h) dX6_noteUse_7 rfl rfl rfl rfl rfl (by assumption) (by first | assumption | exact ⟨by omega, by omega⟩ | exact hw.1 _ _ | omega) ?_
  refine x_aload_n 11 C dX6_noteUse_10 rfl rfl ?_
  refine x_aload_n 12 C dX6_noteUse_11 rfl rfl ?_
  refine x_getIv 15 901 C fr_X6_35 dX6_noteUse_12 rfl rfl rfl rfl (by assumption) (show u2 (gI G) 901 j (lu + 1) 901 j = _ from u2_s) ?_
  refine x_putI 18 505 C fw_X6_39 (fun h => by cases h) dX6_noteUse_15 rfl rfl rfl rfl rfl (by assumption) (by first | assumption | exact ⟨by omega, by omega⟩ | exact hw.1 _ _ | omega) ?_
  exact x_ret C dX6_noteUse_18 ⟨rfl, rfl⟩
