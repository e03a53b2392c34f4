/-! rows laid by program (wip/tools/genp.py) -/
/-- a request's own words -/
def rkRq (G : GT) (B : Nat → Nat) (rq : Nat) (pg md cr hd me ta af : Int) : Prop := gK G rq = 13 ∧ gP G 1300 rq = some (rkAt G (B 3) pg) ∧ gI G 1301 rq = md ∧ gI G 1302 rq = cr ∧ gI G 1303 rq = hd ∧ gI G 1305 rq = me ∧ gI G 1306 rq = ta ∧ gI G 1307 rq = af
def rkCr (R : RT) (ta a pg : Int) : Bool := decide (¬ ta = 0) || !rSame R a (R 25 pg.toNat)
def rkUse (R : RT) (cr ta a pg : Int) : Bool := decide (cr = 2) || (decide (cr = 1) && !rkCr R ta a pg)
def rkMx (R : RT) (md a pg : Int) : Bool := decide (R 8 (R 25 pg.toNat).toNat = 1) && (decide (R 8 a.toNat = 0) && decide (¬ md = 2))
def rkLt (R : RT) (cr ta a pg : Int) : Bool := if R 14 a.toNat = -2 then decide (¬ cr = 2) else if cr = 2 ∧ R 15 a.toNat = 0 then false else if R 14 a.toNat = -3 then decide (¬ ta = 0) else (decide (ta = 0) && decide (rkAll R a = rkOrg R (R 25 pg.toNat)))
theorem rkOrg_d {R : RT} (hD : RAd R) {a b : Int} (ha : 0 ≤ a ∧ a < R 7 0) (hb : 0 ≤ b ∧ b < R 7 0) : rSame R a b = decide (rkOrg R a = rkOrg R b) := by
  have h := rkOrg_same hD ha hb
  by_cases c : rkOrg R a = rkOrg R b
  · rw [decide_eq_true c]
    exact h.mp c
  · rw [decide_eq_false c]
    cases q : rSame R a b
    · rfl
    · exact absurd (h.mpr q) c
theorem rkAll_t {R : RT} (hH : RH R) (hD : RAd R) {a : Int} (ha : 0 ≤ a ∧ a < R 7 0) : (rkAll R a = -2 ↔ R 14 a.toNat = -2) ∧ (rkAll R a = -3 ↔ R 14 a.toNat = -3) := by
  have d := (hD a.toNat (by omega)).2.2.2.2.2.2.1
  unfold rkAll
  split
  · exact ⟨Iff.rfl, Iff.rfl⟩
  · have := rkOrg_in hH hD (a := R 14 a.toNat) ⟨by omega, d.2⟩
    constructor <;> constructor <;> (intro z; omega)
set_option maxHeartbeats 2000000 in
set_option maxRecDepth 100000 in
theorem c_X11_isCross {E : EV} {l : Launch} {G : GT} {B : Nat → Nat} {R : RT} (hW : rkW G B R) {rq : Nat} {pg md cr hd me ta0 af0 : Int} (hr : rkRq G B rq pg md cr hd me ta0 af0) (h61 : 0 ≤ pg ∧ pg < R 24 0) {hp : Nat} {a me2 ta af nv qt : Int} (hh : rkHv G B hp a me2 ta af nv qt) (h0 : 0 ≤ a ∧ a < R 7 0)  : MT E l yX11_isCross cX11_isCross 2 (some .boolean) 1 21 0 0 [.ref rq, .ref hp] (G) (pD (some (.int (i32 (bI (rkCr R ta a pg))))) (G)) := by
  refine mt_of (own := RX11) (L := [some (.ref rq), some (.ref hp)]) (by decide +kernel) rfl (Nat.le_of_ble_eq_true rfl) (List.forall_mem_cons.mpr ⟨rfl, (List.forall_mem_cons.mpr ⟨rfl, (fun _ h => absurd h List.not_mem_nil)⟩)⟩) rfl ?_
  intro p e s m args below meth c C hin
  refine x_wf (fun hw => ?_)
  obtain ⟨hB, hH, hA, hP, hI⟩ := id hW
  obtain ⟨⟨b0, b6, b7⟩, ⟨bk1, bk2, bk3, bk4, bk5, bk8, bk9⟩, ⟨bp0, bp1, bp2, bp3, bp4, bp5, bp6, bp7, bp8⟩, -⟩ := id hB
  obtain ⟨hl1, hh1⟩ := id hH
  obtain ⟨hl2, hh2⟩ := id hA
  obtain ⟨hl3, hh3⟩ := id hP
  obtain ⟨iH, iA, iAd, iHl, iP, iS, hRw, iU⟩ := id hI
  have iH1 := iH.1
  have iA1 := iA.1
  have iA2 := iA.2
  have iP1 := iP.1
  obtain ⟨rk, r0, r1, r2, r3, r5, r6, r7⟩ := id hr
  have rmd : InR md := by (rw [← r1]; exact hw.1 _ _)
  have rcr : InR cr := by (rw [← r2]; exact hw.1 _ _)
  have rhd : InR hd := by (rw [← r3]; exact hw.1 _ _)
  have rm5 : InR me := by (rw [← r5]; exact hw.1 _ _)
  have rt6 : InR ta0 := by (rw [← r6]; exact hw.1 _ _)
  have rf7 : InR af0 := by (rw [← r7]; exact hw.1 _ _)
  obtain ⟨g1, g2, g3, g4⟩ := hh3 pg h61.1 h61.2
  obtain ⟨u1, u2, u3⟩ := iP.2 pg.toNat (by omega)
  obtain ⟨⟨m1, m2, m3, m4, m5, m6⟩, -⟩ := hh2 (R 25 pg.toNat) u1.1 u1.2
  obtain ⟨hk, hp0, hp1, hp2, hp3, hp4, hp5⟩ := id hh
  have rta : InR ta := by (rw [← hp2]; exact hw.1 _ _)
  obtain ⟨⟨a1, a2, a3, a4, a5, a6⟩, -, ⟨b1, b2, b3, b4, b5, b8⟩, -⟩ := hh2 a h0.1 h0.2
  have hsd := rkOrg_d iAd h0 u1
  have oa := rkOrg_in iH iAd h0
  have ob := rkOrg_in iH iAd u1
  refine x_joinv 32 (fun vJ => vJ = bI (rkCr R ta a pg)) ?_ (fun hJ32 => ?_)
  · intro vJ hJ
    subst hJ
    exact x_iret C dX11_isCross_32 (by first | rfl | exact nar_b _ | exact nar_01 (by first | assumption | omega)) ⟨vi (rfl), rfl⟩
  · skip
    refine x_aload_n 1 C dX11_isCross_0 rfl rfl ?_
    refine x_getIv 4 702 C fr_X11_336 dX11_isCross_1 rfl rfl rfl rfl (by assumption) (by first | assumption | rfl) ?_
    refine x_if_ne 7 27 C dX11_isCross_4 rfl (by decide) (by first | exact hRw _ _ | assumption | exact ⟨by omega, by omega⟩ | exact hw.1 _ _ | omega) (fun h4 => ?_) (fun h4 => ?_)
    · skip
      refine x_iconst 28 C dX11_isCross_27 rfl ?_
      refine x_goto 32 C dX11_isCross_28 (by decide) ?_
      exact hJ32 _ (by unfold rkCr; first | (rw [decide_eq_true h4]; rfl) | (rw [decide_eq_false (show ¬ ¬ ta = 0 by omega), hsd, decide_eq_true h24]; rfl) | (rw [decide_eq_false (show ¬ ¬ ta = 0 by omega), hsd, decide_eq_false h24]; rfl))
    · skip
      refine x_aload_n 8 C dX11_isCross_7 rfl rfl ?_
      refine x_getO 11 700 C fr_X11_310 dX11_isCross_8 rfl rfl rfl rfl (by assumption) (by assumption) ?_
      refine x_callV (As := []) 14 3 0 0 C vw_X11_185 iw_X0_origin sw_X0_origin (c_X0_origin hW h0) dX11_isCross_11 rfl rfl rfl rfl rfl rfl (by assumption) ⟨Nat.le_of_ble_eq_true rfl, Nat.le_of_ble_eq_true rfl⟩ (Nat.le_of_ble_eq_true rfl) ⟨Nat.le_refl _, Nat.le_refl _⟩ (fun v G' hq => ?_)
      obtain ⟨rfl, hG9⟩ := hq
      replace hG9 := hG9.symm
      subst hG9
      refine x_as rfl rfl rfl ?_
      refine x_aload_n 15 C dX11_isCross_14 rfl rfl ?_
      refine x_getO 18 1300 C fr_X11_276 dX11_isCross_15 rfl rfl rfl rfl (by assumption) (by assumption) ?_
      refine x_getO 21 1000 C fr_X11_279 dX11_isCross_18 rfl rfl rfl rfl (by assumption) (by assumption) ?_
      refine x_callV (As := []) 24 3 0 0 C vw_X11_185 iw_X0_origin sw_X0_origin (c_X0_origin hW u1) dX11_isCross_21 rfl rfl rfl rfl rfl rfl (by assumption) ⟨Nat.le_of_ble_eq_true rfl, Nat.le_of_ble_eq_true rfl⟩ (Nat.le_of_ble_eq_true rfl) ⟨Nat.le_refl _, Nat.le_refl _⟩ (fun v G' hq => ?_)
      obtain ⟨rfl, hG9⟩ := hq
      replace hG9 := hG9.symm
      subst hG9
      refine x_as rfl rfl rfl ?_
      refine x_icmp_eq 27 31 C dX11_isCross_24 rfl (by decide) (by first | exact hRw _ _ | assumption | exact ⟨by omega, by omega⟩ | exact hw.1 _ _ | omega) (by first | exact hRw _ _ | assumption | exact ⟨by omega, by omega⟩ | exact hw.1 _ _ | omega) (fun h24 => ?_) (fun h24 => ?_)
      · skip
        refine x_iconst 32 C dX11_isCross_31 rfl ?_
        exact hJ32 _ (by unfold rkCr; first | (rw [decide_eq_true h4]; rfl) | (rw [decide_eq_false (show ¬ ¬ ta = 0 by omega), hsd, decide_eq_true h24]; rfl) | (rw [decide_eq_false (show ¬ ¬ ta = 0 by omega), hsd, decide_eq_false h24]; rfl))
      · skip
        refine x_iconst 28 C dX11_isCross_27 rfl ?_
        refine x_goto 32 C dX11_isCross_28 (by decide) ?_
        exact hJ32 _ (by unfold rkCr; first | (rw [decide_eq_true h4]; rfl) | (rw [decide_eq_false (show ¬ ¬ ta = 0 by omega), hsd, decide_eq_true h24]; rfl) | (rw [decide_eq_false (show ¬ ¬ ta = 0 by omega), hsd, decide_eq_false h24]; rfl))
set_option maxHeartbeats 2000000 in
set_option maxRecDepth 100000 in
theorem c_X11_usesCredentials {E : EV} {l : Launch} {G : GT} {B : Nat → Nat} {R : RT} (hW : rkW G B R) {rq : Nat} {pg md cr hd me ta0 af0 : Int} (hr : rkRq G B rq pg md cr hd me ta0 af0) (h61 : 0 ≤ pg ∧ pg < R 24 0) {hp : Nat} {a me2 ta af nv qt : Int} (hh : rkHv G B hp a me2 ta af nv qt) (h0 : 0 ≤ a ∧ a < R 7 0)  : MT E l yX11_usesCredentials cX11_usesCredentials 2 (some .boolean) 2 42 0 0 [.ref rq, .ref hp] (G) (pD (some (.int (i32 (bI (rkUse R cr ta a pg))))) (G)) := by
  refine mt_of (own := RX11) (L := [some (.ref rq), some (.ref hp)]) (by decide +kernel) rfl (Nat.le_of_ble_eq_true rfl) (List.forall_mem_cons.mpr ⟨rfl, (List.forall_mem_cons.mpr ⟨rfl, (fun _ h => absurd h List.not_mem_nil)⟩)⟩) rfl ?_
  intro p e s m args below meth c C hin
  refine x_wf (fun hw => ?_)
  obtain ⟨hB, hH, hA, hP, hI⟩ := id hW
  obtain ⟨⟨b0, b6, b7⟩, ⟨bk1, bk2, bk3, bk4, bk5, bk8, bk9⟩, ⟨bp0, bp1, bp2, bp3, bp4, bp5, bp6, bp7, bp8⟩, -⟩ := id hB
  obtain ⟨hl1, hh1⟩ := id hH
  obtain ⟨hl2, hh2⟩ := id hA
  obtain ⟨hl3, hh3⟩ := id hP
  obtain ⟨iH, iA, iAd, iHl, iP, iS, hRw, iU⟩ := id hI
  have iH1 := iH.1
  have iA1 := iA.1
  have iA2 := iA.2
  have iP1 := iP.1
  obtain ⟨rk, r0, r1, r2, r3, r5, r6, r7⟩ := id hr
  have rmd : InR md := by (rw [← r1]; exact hw.1 _ _)
  have rcr : InR cr := by (rw [← r2]; exact hw.1 _ _)
  have rhd : InR hd := by (rw [← r3]; exact hw.1 _ _)
  have rm5 : InR me := by (rw [← r5]; exact hw.1 _ _)
  have rt6 : InR ta0 := by (rw [← r6]; exact hw.1 _ _)
  have rf7 : InR af0 := by (rw [← r7]; exact hw.1 _ _)
  obtain ⟨g1, g2, g3, g4⟩ := hh3 pg h61.1 h61.2
  obtain ⟨u1, u2, u3⟩ := iP.2 pg.toNat (by omega)
  obtain ⟨⟨m1, m2, m3, m4, m5, m6⟩, -⟩ := hh2 (R 25 pg.toNat) u1.1 u1.2
  obtain ⟨hk, hp0, hp1, hp2, hp3, hp4, hp5⟩ := id hh
  have rta : InR ta := by (rw [← hp2]; exact hw.1 _ _)
  obtain ⟨⟨a1, a2, a3, a4, a5, a6⟩, -, ⟨b1, b2, b3, b4, b5, b8⟩, -⟩ := hh2 a h0.1 h0.2
  have hsd := rkOrg_d iAd h0 u1
  have oa := rkOrg_in iH iAd h0
  have ob := rkOrg_in iH iAd u1
  refine x_joinv 29 (fun vJ => vJ = bI (rkUse R cr ta a pg)) ?_ (fun hJ29 => ?_)
  · intro vJ hJ
    subst hJ
    exact x_iret C dX11_usesCredentials_29 (by first | rfl | exact nar_b _ | exact nar_01 (by first | assumption | omega)) ⟨vi (rfl), rfl⟩
  · skip
    refine x_aload_n 1 C dX11_usesCredentials_0 rfl rfl ?_
    refine x_getIv 4 1302 C fr_X11_339 dX11_usesCredentials_1 rfl rfl rfl rfl (by assumption) (by first | assumption | rfl) ?_
    refine x_iconst 5 C dX11_usesCredentials_4 rfl ?_
    refine x_icmp_eq 8 24 C dX11_usesCredentials_5 rfl (by decide) (by first | exact hRw _ _ | assumption | exact ⟨by omega, by omega⟩ | exact hw.1 _ _ | omega) (by first | exact hRw _ _ | assumption | exact ⟨by omega, by omega⟩ | exact hw.1 _ _ | omega) (fun h5 => ?_) (fun h5 => ?_)
    · skip
      refine x_iconst 25 C dX11_usesCredentials_24 rfl ?_
      refine x_goto 29 C dX11_usesCredentials_25 (by decide) ?_
      exact hJ29 _ (by unfold rkUse; first | (rw [decide_eq_true h5]; rfl) | (rw [decide_eq_false h5, decide_eq_false h13]; rfl) | (rw [decide_eq_false h5, decide_eq_true (show cr = 1 by omega), h21]; rfl))
    · skip
      refine x_aload_n 9 C dX11_usesCredentials_8 rfl rfl ?_
      refine x_getIv 12 1302 C fr_X11_339 dX11_usesCredentials_9 rfl rfl rfl rfl (by assumption) (by first | assumption | rfl) ?_
      refine x_iconst 13 C dX11_usesCredentials_12 rfl ?_
      refine x_icmp_ne 16 28 C dX11_usesCredentials_13 rfl (by decide) (by first | exact hRw _ _ | assumption | exact ⟨by omega, by omega⟩ | exact hw.1 _ _ | omega) (by first | exact hRw _ _ | assumption | exact ⟨by omega, by omega⟩ | exact hw.1 _ _ | omega) (fun h13 => ?_) (fun h13 => ?_)
      · skip
        refine x_iconst 29 C dX11_usesCredentials_28 rfl ?_
        exact hJ29 _ (by unfold rkUse; first | (rw [decide_eq_true h5]; rfl) | (rw [decide_eq_false h5, decide_eq_false h13]; rfl) | (rw [decide_eq_false h5, decide_eq_true (show cr = 1 by omega), h21]; rfl))
      · skip
        refine x_aload_n 17 C dX11_usesCredentials_16 rfl rfl ?_
        refine x_aload_n 18 C dX11_usesCredentials_17 rfl rfl ?_
        refine x_callS (As := [_, _]) 21 0 0 C vw_X11_297 tw_X11_isCross (c_X11_isCross hW hr h61 hh h0) dX11_usesCredentials_18 rfl rfl rfl ⟨Nat.le_of_ble_eq_true rfl, Nat.le_of_ble_eq_true rfl⟩ (Nat.le_of_ble_eq_true rfl) ⟨Nat.le_refl _, Nat.le_refl _⟩ (fun v G' hq => ?_)
        obtain ⟨rfl, hG9⟩ := hq
        replace hG9 := hG9.symm
        subst hG9
        refine x_as rfl rfl rfl ?_
        refine x_if_neB 24 28 C dX11_usesCredentials_21 rfl (by decide) (fun h21 => ?_) (fun h21 => ?_)
        · skip
          refine x_iconst 29 C dX11_usesCredentials_28 rfl ?_
          exact hJ29 _ (by unfold rkUse; first | (rw [decide_eq_true h5]; rfl) | (rw [decide_eq_false h5, decide_eq_false h13]; rfl) | (rw [decide_eq_false h5, decide_eq_true (show cr = 1 by omega), h21]; rfl))
        · skip
          refine x_iconst 25 C dX11_usesCredentials_24 rfl ?_
          refine x_goto 29 C dX11_usesCredentials_25 (by decide) ?_
          exact hJ29 _ (by unfold rkUse; first | (rw [decide_eq_true h5]; rfl) | (rw [decide_eq_false h5, decide_eq_false h13]; rfl) | (rw [decide_eq_false h5, decide_eq_true (show cr = 1 by omega), h21]; rfl))
set_option maxHeartbeats 2000000 in
set_option maxRecDepth 100000 in
theorem c_X11_isMixed {E : EV} {l : Launch} {G : GT} {B : Nat → Nat} {R : RT} (hW : rkW G B R) {rq : Nat} {pg md cr hd me ta0 af0 : Int} (hr : rkRq G B rq pg md cr hd me ta0 af0) (h61 : 0 ≤ pg ∧ pg < R 24 0) {a : Int} (h0 : 0 ≤ a ∧ a < R 7 0) : MT E l yX11_isMixed cX11_isMixed 2 (some .boolean) 0 0 0 0 [.ref rq, .ref (rkAt G (B 2) a)] (G) (pD (some (.int (i32 (bI (rkMx R md a pg))))) (G)) := by
  refine mt_of (own := RX11) (L := [some (.ref rq), some (.ref (rkAt G (B 2) a))]) (by decide +kernel) rfl (Nat.le_of_ble_eq_true rfl) (List.forall_mem_cons.mpr ⟨rfl, (List.forall_mem_cons.mpr ⟨rfl, (fun _ h => absurd h List.not_mem_nil)⟩)⟩) rfl ?_
  intro p e s m args below meth c C hin
  refine x_wf (fun hw => ?_)
  obtain ⟨hB, hH, hA, hP, hI⟩ := id hW
  obtain ⟨⟨b0, b6, b7⟩, ⟨bk1, bk2, bk3, bk4, bk5, bk8, bk9⟩, ⟨bp0, bp1, bp2, bp3, bp4, bp5, bp6, bp7, bp8⟩, -⟩ := id hB
  obtain ⟨hl1, hh1⟩ := id hH
  obtain ⟨hl2, hh2⟩ := id hA
  obtain ⟨hl3, hh3⟩ := id hP
  obtain ⟨iH, iA, iAd, iHl, iP, iS, hRw, iU⟩ := id hI
  have iH1 := iH.1
  have iA1 := iA.1
  have iA2 := iA.2
  have iP1 := iP.1
  obtain ⟨rk, r0, r1, r2, r3, r5, r6, r7⟩ := id hr
  have rmd : InR md := by (rw [← r1]; exact hw.1 _ _)
  have rcr : InR cr := by (rw [← r2]; exact hw.1 _ _)
  have rhd : InR hd := by (rw [← r3]; exact hw.1 _ _)
  have rm5 : InR me := by (rw [← r5]; exact hw.1 _ _)
  have rt6 : InR ta0 := by (rw [← r6]; exact hw.1 _ _)
  have rf7 : InR af0 := by (rw [← r7]; exact hw.1 _ _)
  obtain ⟨g1, g2, g3, g4⟩ := hh3 pg h61.1 h61.2
  obtain ⟨u1, u2, u3⟩ := iP.2 pg.toNat (by omega)
  obtain ⟨⟨m1, m2, m3, m4, m5, m6⟩, -⟩ := hh2 (R 25 pg.toNat) u1.1 u1.2
  obtain ⟨⟨a1, a2, a3, a4, a5, a6⟩, -⟩ := hh2 a h0.1 h0.2
  refine x_joinv 34 (fun vJ => vJ = bI (rkMx R md a pg)) ?_ (fun hJ34 => ?_)
  · intro vJ hJ
    subst hJ
    exact x_iret C dX11_isMixed_34 (by first | rfl | exact nar_b _ | exact nar_01 (by first | assumption | omega)) ⟨vi (rfl), rfl⟩
  · skip
    refine x_aload_n 1 C dX11_isMixed_0 rfl rfl ?_
    refine x_getO 4 1300 C fr_X11_276 dX11_isMixed_1 rfl rfl rfl rfl (by assumption) (by assumption) ?_
    refine x_getO 7 1000 C fr_X11_279 dX11_isMixed_4 rfl rfl rfl rfl (by assumption) (by assumption) ?_
    refine x_getIv 10 301 C fr_X11_121 dX11_isMixed_7 rfl rfl rfl rfl (by assumption) (by first | assumption | rfl) ?_
    refine x_iconst 11 C dX11_isMixed_10 rfl ?_
    refine x_icmp_ne 14 33 C dX11_isMixed_11 rfl (by decide) (by first | exact hRw _ _ | assumption | exact ⟨by omega, by omega⟩ | exact hw.1 _ _ | omega) (by first | exact hRw _ _ | assumption | exact ⟨by omega, by omega⟩ | exact hw.1 _ _ | omega) (fun h11 => ?_) (fun h11 => ?_)
    · skip
      refine x_iconst 34 C dX11_isMixed_33 rfl ?_
      exact hJ34 _ (by unfold rkMx; first | (rw [decide_eq_false h11]; rfl) | (rw [decide_eq_true (show R 8 (R 25 pg.toNat).toNat = 1 by omega), decide_eq_false h18]; rfl) | (rw [decide_eq_true (show R 8 (R 25 pg.toNat).toNat = 1 by omega), decide_eq_true (show R 8 a.toNat = 0 by omega), decide_eq_false (show ¬ ¬ md = 2 by omega)]; rfl) | (rw [decide_eq_true (show R 8 (R 25 pg.toNat).toNat = 1 by omega), decide_eq_true (show R 8 a.toNat = 0 by omega), decide_eq_true h26]; rfl))
    · skip
      refine x_aload_n 15 C dX11_isMixed_14 rfl rfl ?_
      refine x_getIv 18 301 C fr_X11_121 dX11_isMixed_15 rfl rfl rfl rfl (by assumption) (by first | assumption | rfl) ?_
      refine x_if_ne 21 33 C dX11_isMixed_18 rfl (by decide) (by first | exact hRw _ _ | assumption | exact ⟨by omega, by omega⟩ | exact hw.1 _ _ | omega) (fun h18 => ?_) (fun h18 => ?_)
      · skip
        refine x_iconst 34 C dX11_isMixed_33 rfl ?_
        exact hJ34 _ (by unfold rkMx; first | (rw [decide_eq_false h11]; rfl) | (rw [decide_eq_true (show R 8 (R 25 pg.toNat).toNat = 1 by omega), decide_eq_false h18]; rfl) | (rw [decide_eq_true (show R 8 (R 25 pg.toNat).toNat = 1 by omega), decide_eq_true (show R 8 a.toNat = 0 by omega), decide_eq_false (show ¬ ¬ md = 2 by omega)]; rfl) | (rw [decide_eq_true (show R 8 (R 25 pg.toNat).toNat = 1 by omega), decide_eq_true (show R 8 a.toNat = 0 by omega), decide_eq_true h26]; rfl))
      · skip
        refine x_aload_n 22 C dX11_isMixed_21 rfl rfl ?_
        refine x_getIv 25 1301 C fr_X11_294 dX11_isMixed_22 rfl rfl rfl rfl (by assumption) (by first | assumption | rfl) ?_
        refine x_iconst 26 C dX11_isMixed_25 rfl ?_
        refine x_icmp_eq 29 33 C dX11_isMixed_26 rfl (by decide) (by first | exact hRw _ _ | assumption | exact ⟨by omega, by omega⟩ | exact hw.1 _ _ | omega) (by first | exact hRw _ _ | assumption | exact ⟨by omega, by omega⟩ | exact hw.1 _ _ | omega) (fun h26 => ?_) (fun h26 => ?_)
        · skip
          refine x_iconst 34 C dX11_isMixed_33 rfl ?_
          exact hJ34 _ (by unfold rkMx; first | (rw [decide_eq_false h11]; rfl) | (rw [decide_eq_true (show R 8 (R 25 pg.toNat).toNat = 1 by omega), decide_eq_false h18]; rfl) | (rw [decide_eq_true (show R 8 (R 25 pg.toNat).toNat = 1 by omega), decide_eq_true (show R 8 a.toNat = 0 by omega), decide_eq_false (show ¬ ¬ md = 2 by omega)]; rfl) | (rw [decide_eq_true (show R 8 (R 25 pg.toNat).toNat = 1 by omega), decide_eq_true (show R 8 a.toNat = 0 by omega), decide_eq_true h26]; rfl))
        · skip
          refine x_iconst 30 C dX11_isMixed_29 rfl ?_
          refine x_goto 34 C dX11_isMixed_30 (by decide) ?_
          exact hJ34 _ (by unfold rkMx; first | (rw [decide_eq_false h11]; rfl) | (rw [decide_eq_true (show R 8 (R 25 pg.toNat).toNat = 1 by omega), decide_eq_false h18]; rfl) | (rw [decide_eq_true (show R 8 (R 25 pg.toNat).toNat = 1 by omega), decide_eq_true (show R 8 a.toNat = 0 by omega), decide_eq_false (show ¬ ¬ md = 2 by omega)]; rfl) | (rw [decide_eq_true (show R 8 (R 25 pg.toNat).toNat = 1 by omega), decide_eq_true (show R 8 a.toNat = 0 by omega), decide_eq_true h26]; rfl))
set_option maxHeartbeats 2000000 in
set_option maxRecDepth 100000 in
theorem c_X11_isLetByAnswer {E : EV} {l : Launch} {G : GT} {B : Nat → Nat} {R : RT} (hW : rkW G B R) {rq : Nat} {pg md cr hd me ta0 af0 : Int} (hr : rkRq G B rq pg md cr hd me ta0 af0) (h61 : 0 ≤ pg ∧ pg < R 24 0) {hp : Nat} {a me2 ta af nv qt : Int} (hh : rkHv G B hp a me2 ta af nv qt) (h0 : 0 ≤ a ∧ a < R 7 0) (hta : ta = 0 ∨ ta = 1) : MT E l yX11_isLetByAnswer cX11_isLetByAnswer 4 (some .boolean) 1 21 0 0 [.ref rq, .ref hp] (G) (pD (some (.int (i32 (bI (rkLt R cr ta a pg))))) (G)) := by
  refine mt_of (own := RX11) (L := [some (.ref rq), some (.ref hp), none, none]) (by decide +kernel) rfl (Nat.le_of_ble_eq_true rfl) (List.forall_mem_cons.mpr ⟨rfl, (List.forall_mem_cons.mpr ⟨rfl, (fun _ h => absurd h List.not_mem_nil)⟩)⟩) rfl ?_
  intro p e s m args below meth c C hin
  refine x_wf (fun hw => ?_)
  obtain ⟨hB, hH, hA, hP, hI⟩ := id hW
  obtain ⟨⟨b0, b6, b7⟩, ⟨bk1, bk2, bk3, bk4, bk5, bk8, bk9⟩, ⟨bp0, bp1, bp2, bp3, bp4, bp5, bp6, bp7, bp8⟩, -⟩ := id hB
  obtain ⟨hl1, hh1⟩ := id hH
  obtain ⟨hl2, hh2⟩ := id hA
  obtain ⟨hl3, hh3⟩ := id hP
  obtain ⟨iH, iA, iAd, iHl, iP, iS, hRw, iU⟩ := id hI
  have iH1 := iH.1
  have iA1 := iA.1
  have iA2 := iA.2
  have iP1 := iP.1
  obtain ⟨rk, r0, r1, r2, r3, r5, r6, r7⟩ := id hr
  have rmd : InR md := by (rw [← r1]; exact hw.1 _ _)
  have rcr : InR cr := by (rw [← r2]; exact hw.1 _ _)
  have rhd : InR hd := by (rw [← r3]; exact hw.1 _ _)
  have rm5 : InR me := by (rw [← r5]; exact hw.1 _ _)
  have rt6 : InR ta0 := by (rw [← r6]; exact hw.1 _ _)
  have rf7 : InR af0 := by (rw [← r7]; exact hw.1 _ _)
  obtain ⟨g1, g2, g3, g4⟩ := hh3 pg h61.1 h61.2
  obtain ⟨u1, u2, u3⟩ := iP.2 pg.toNat (by omega)
  obtain ⟨⟨m1, m2, m3, m4, m5, m6⟩, -⟩ := hh2 (R 25 pg.toNat) u1.1 u1.2
  obtain ⟨hk, hp0, hp1, hp2, hp3, hp4, hp5⟩ := id hh
  have rta : InR ta := by (rw [← hp2]; exact hw.1 _ _)
  obtain ⟨⟨a1, a2, a3, a4, a5, a6⟩, -, ⟨b1, b2, b3, b4, b5, b8⟩, -⟩ := hh2 a h0.1 h0.2
  have hsd := rkOrg_d iAd h0 u1
  have oa := rkOrg_in iH iAd h0
  have ob := rkOrg_in iH iAd u1
  have hal := rkAll_t iH iAd h0
  have ral : InR (rkAll R a) := by (rw [← b3]; exact hw.1 _ _)
  refine x_aload_n 1 C dX11_isLetByAnswer_0 rfl rfl ?_
  refine x_getO 4 700 C fr_X11_310 dX11_isLetByAnswer_1 rfl rfl rfl rfl (by assumption) (by assumption) ?_
  refine x_astore_n 5 C dX11_isLetByAnswer_4 rfl rfl rfl ?_
  refine x_joinv 18 (fun vJ => vJ = bI (decide (cr = 2))) ?_ (fun hJ18 => ?_)
  · intro vJ hJ
    subst hJ
    refine x_istore_n 19 C dX11_isLetByAnswer_18 rfl rfl rfl ?_
    refine x_aload_n 20 C dX11_isLetByAnswer_19 rfl rfl ?_
    refine x_getIv 23 308 C fr_X11_190 dX11_isLetByAnswer_20 rfl rfl rfl rfl (by assumption) (by first | assumption | rfl) ?_
    refine x_bipush 25 C dX11_isLetByAnswer_23 rfl (by decide) ?_
    refine x_icmp_ne 28 38 C dX11_isLetByAnswer_25 rfl (by decide) (by first | exact hRw _ _ | assumption | exact ⟨by omega, by omega⟩ | exact hw.1 _ _ | omega) (by first | exact hRw _ _ | assumption | exact ⟨by omega, by omega⟩ | exact hw.1 _ _ | omega) (fun h25 => ?_) (fun h25 => ?_)
    · skip
      have n2 : ¬ R 14 a.toNat = -2 := fun z => h25 (hal.1.mpr z)
      refine x_iload_n 39 C dX11_isLetByAnswer_38 rfl rfl ?_
      refine x_if_eqB 42 51 C dX11_isLetByAnswer_39 rfl (by decide) (fun h39 => ?_) (fun h39 => ?_)
      · skip
        have hcan : ¬ (cr = 2 ∧ R 15 a.toNat = 0) := fun z => (of_decide_eq_false h39) z.1
        refine x_aload_n 52 C dX11_isLetByAnswer_51 rfl rfl ?_
        refine x_getIv 55 308 C fr_X11_190 dX11_isLetByAnswer_52 rfl rfl rfl rfl (by assumption) (by first | assumption | rfl) ?_
        refine x_bipush 57 C dX11_isLetByAnswer_55 rfl (by decide) ?_
        refine x_icmp_ne 60 65 C dX11_isLetByAnswer_57 rfl (by decide) (by first | exact hRw _ _ | assumption | exact ⟨by omega, by omega⟩ | exact hw.1 _ _ | omega) (by first | exact hRw _ _ | assumption | exact ⟨by omega, by omega⟩ | exact hw.1 _ _ | omega) (fun h57 => ?_) (fun h57 => ?_)
        · skip
          have n3 : ¬ R 14 a.toNat = -3 := fun z => h57 (hal.2.mpr z)
          have hlt3 : rkLt R cr ta a pg = (decide (ta = 0) && decide (rkAll R a = rkOrg R (R 25 pg.toNat))) := (by rw [rkLt, if_neg n2, if_neg hcan, if_neg n3])
          refine x_joinv 94 (fun vJ => vJ = bI (rkLt R cr ta a pg)) ?_ (fun hJ94 => ?_)
          · intro vJ hJ
            subst hJ
            exact x_iret C dX11_isLetByAnswer_94 (by first | rfl | exact nar_b _ | exact nar_01 (by first | assumption | omega)) ⟨vi rfl, rfl⟩
          · skip
            refine x_aload_n 66 C dX11_isLetByAnswer_65 rfl rfl ?_
            refine x_getIv 69 702 C fr_X11_336 dX11_isLetByAnswer_66 rfl rfl rfl rfl (by assumption) (by first | assumption | rfl) ?_
            refine x_if_ne 72 93 C dX11_isLetByAnswer_69 rfl (by decide) (by first | exact hRw _ _ | assumption | exact ⟨by omega, by omega⟩ | exact hw.1 _ _ | omega) (fun h69 => ?_) (fun h69 => ?_)
            · skip
              refine x_iconst 94 C dX11_isLetByAnswer_93 rfl ?_
              exact hJ94 _ (by rw [hlt3]; first | (rw [decide_eq_false (show ¬ ta = 0 by omega)]; rfl) | (rw [decide_eq_true (show ta = 0 by omega), decide_eq_true (show rkAll R a = rkOrg R (R 25 pg.toNat) by omega)]; rfl) | (rw [decide_eq_true (show ta = 0 by omega), decide_eq_false h86]; rfl))
            · skip
              refine x_aload_n 73 C dX11_isLetByAnswer_72 rfl rfl ?_
              refine x_getIv 76 308 C fr_X11_190 dX11_isLetByAnswer_73 rfl rfl rfl rfl (by assumption) (by first | assumption | rfl) ?_
              refine x_aload_n 77 C dX11_isLetByAnswer_76 rfl rfl ?_
              refine x_getO 80 1300 C fr_X11_276 dX11_isLetByAnswer_77 rfl rfl rfl rfl (by assumption) (by assumption) ?_
              refine x_getO 83 1000 C fr_X11_279 dX11_isLetByAnswer_80 rfl rfl rfl rfl (by assumption) (by assumption) ?_
              refine x_callV (As := []) 86 3 0 0 C vw_X11_185 iw_X0_origin sw_X0_origin (c_X0_origin hW u1) dX11_isLetByAnswer_83 rfl rfl rfl rfl rfl rfl (by assumption) ⟨Nat.le_of_ble_eq_true rfl, Nat.le_of_ble_eq_true rfl⟩ (Nat.le_of_ble_eq_true rfl) ⟨Nat.le_refl _, Nat.le_refl _⟩ (fun v G' hq => ?_)
              obtain ⟨rfl, hG9⟩ := hq
              replace hG9 := hG9.symm
              subst hG9
              refine x_as rfl rfl rfl ?_
              refine x_icmp_ne 89 93 C dX11_isLetByAnswer_86 rfl (by decide) (by first | exact hRw _ _ | assumption | exact ⟨by omega, by omega⟩ | exact hw.1 _ _ | omega) (by first | exact hRw _ _ | assumption | exact ⟨by omega, by omega⟩ | exact hw.1 _ _ | omega) (fun h86 => ?_) (fun h86 => ?_)
              · skip
                refine x_iconst 94 C dX11_isLetByAnswer_93 rfl ?_
                exact hJ94 _ (by rw [hlt3]; first | (rw [decide_eq_false (show ¬ ta = 0 by omega)]; rfl) | (rw [decide_eq_true (show ta = 0 by omega), decide_eq_true (show rkAll R a = rkOrg R (R 25 pg.toNat) by omega)]; rfl) | (rw [decide_eq_true (show ta = 0 by omega), decide_eq_false h86]; rfl))
              · skip
                refine x_iconst 90 C dX11_isLetByAnswer_89 rfl ?_
                refine x_goto 94 C dX11_isLetByAnswer_90 (by decide) ?_
                exact hJ94 _ (by rw [hlt3]; first | (rw [decide_eq_false (show ¬ ta = 0 by omega)]; rfl) | (rw [decide_eq_true (show ta = 0 by omega), decide_eq_true (show rkAll R a = rkOrg R (R 25 pg.toNat) by omega)]; rfl) | (rw [decide_eq_true (show ta = 0 by omega), decide_eq_false h86]; rfl))
        · skip
          have n3 : R 14 a.toNat = -3 := hal.2.mp (by omega)
          refine x_aload_n 61 C dX11_isLetByAnswer_60 rfl rfl ?_
          refine x_getIv 64 702 C fr_X11_336 dX11_isLetByAnswer_61 rfl rfl rfl rfl (by assumption) (by first | assumption | rfl) ?_
          exact x_iret C dX11_isLetByAnswer_64 (nar_01 hta) ⟨vi (by rw [rkLt, if_neg n2, if_neg hcan, if_pos n3]; rcases hta with z | z <;> (subst z; rfl)), rfl⟩
      · skip
        refine x_aload_n 43 C dX11_isLetByAnswer_42 rfl rfl ?_
        refine x_getIv 46 309 C fr_X11_193 dX11_isLetByAnswer_43 rfl rfl rfl rfl (by assumption) (by first | assumption | rfl) ?_
        refine x_if_ne 49 51 C dX11_isLetByAnswer_46 rfl (by decide) (by first | exact hRw _ _ | assumption | exact ⟨by omega, by omega⟩ | exact hw.1 _ _ | omega) (fun h46 => ?_) (fun h46 => ?_)
        · skip
          have hcan : ¬ (cr = 2 ∧ R 15 a.toNat = 0) := fun z => h46 z.2
          refine x_aload_n 52 C dX11_isLetByAnswer_51 rfl rfl ?_
          refine x_getIv 55 308 C fr_X11_190 dX11_isLetByAnswer_52 rfl rfl rfl rfl (by assumption) (by first | assumption | rfl) ?_
          refine x_bipush 57 C dX11_isLetByAnswer_55 rfl (by decide) ?_
          refine x_icmp_ne 60 65 C dX11_isLetByAnswer_57 rfl (by decide) (by first | exact hRw _ _ | assumption | exact ⟨by omega, by omega⟩ | exact hw.1 _ _ | omega) (by first | exact hRw _ _ | assumption | exact ⟨by omega, by omega⟩ | exact hw.1 _ _ | omega) (fun h57 => ?_) (fun h57 => ?_)
          · skip
            have n3 : ¬ R 14 a.toNat = -3 := fun z => h57 (hal.2.mpr z)
            have hlt3 : rkLt R cr ta a pg = (decide (ta = 0) && decide (rkAll R a = rkOrg R (R 25 pg.toNat))) := (by rw [rkLt, if_neg n2, if_neg hcan, if_neg n3])
            refine x_joinv 94 (fun vJ => vJ = bI (rkLt R cr ta a pg)) ?_ (fun hJ94 => ?_)
            · intro vJ hJ
              subst hJ
              exact x_iret C dX11_isLetByAnswer_94 (by first | rfl | exact nar_b _ | exact nar_01 (by first | assumption | omega)) ⟨vi rfl, rfl⟩
            · skip
              refine x_aload_n 66 C dX11_isLetByAnswer_65 rfl rfl ?_
              refine x_getIv 69 702 C fr_X11_336 dX11_isLetByAnswer_66 rfl rfl rfl rfl (by assumption) (by first | assumption | rfl) ?_
              refine x_if_ne 72 93 C dX11_isLetByAnswer_69 rfl (by decide) (by first | exact hRw _ _ | assumption | exact ⟨by omega, by omega⟩ | exact hw.1 _ _ | omega) (fun h69 => ?_) (fun h69 => ?_)
              · skip
                refine x_iconst 94 C dX11_isLetByAnswer_93 rfl ?_
                exact hJ94 _ (by rw [hlt3]; first | (rw [decide_eq_false (show ¬ ta = 0 by omega)]; rfl) | (rw [decide_eq_true (show ta = 0 by omega), decide_eq_true (show rkAll R a = rkOrg R (R 25 pg.toNat) by omega)]; rfl) | (rw [decide_eq_true (show ta = 0 by omega), decide_eq_false h86]; rfl))
              · skip
                refine x_aload_n 73 C dX11_isLetByAnswer_72 rfl rfl ?_
                refine x_getIv 76 308 C fr_X11_190 dX11_isLetByAnswer_73 rfl rfl rfl rfl (by assumption) (by first | assumption | rfl) ?_
                refine x_aload_n 77 C dX11_isLetByAnswer_76 rfl rfl ?_
                refine x_getO 80 1300 C fr_X11_276 dX11_isLetByAnswer_77 rfl rfl rfl rfl (by assumption) (by assumption) ?_
                refine x_getO 83 1000 C fr_X11_279 dX11_isLetByAnswer_80 rfl rfl rfl rfl (by assumption) (by assumption) ?_
                refine x_callV (As := []) 86 3 0 0 C vw_X11_185 iw_X0_origin sw_X0_origin (c_X0_origin hW u1) dX11_isLetByAnswer_83 rfl rfl rfl rfl rfl rfl (by assumption) ⟨Nat.le_of_ble_eq_true rfl, Nat.le_of_ble_eq_true rfl⟩ (Nat.le_of_ble_eq_true rfl) ⟨Nat.le_refl _, Nat.le_refl _⟩ (fun v G' hq => ?_)
                obtain ⟨rfl, hG9⟩ := hq
                replace hG9 := hG9.symm
                subst hG9
                refine x_as rfl rfl rfl ?_
                refine x_icmp_ne 89 93 C dX11_isLetByAnswer_86 rfl (by decide) (by first | exact hRw _ _ | assumption | exact ⟨by omega, by omega⟩ | exact hw.1 _ _ | omega) (by first | exact hRw _ _ | assumption | exact ⟨by omega, by omega⟩ | exact hw.1 _ _ | omega) (fun h86 => ?_) (fun h86 => ?_)
                · skip
                  refine x_iconst 94 C dX11_isLetByAnswer_93 rfl ?_
                  exact hJ94 _ (by rw [hlt3]; first | (rw [decide_eq_false (show ¬ ta = 0 by omega)]; rfl) | (rw [decide_eq_true (show ta = 0 by omega), decide_eq_true (show rkAll R a = rkOrg R (R 25 pg.toNat) by omega)]; rfl) | (rw [decide_eq_true (show ta = 0 by omega), decide_eq_false h86]; rfl))
                · skip
                  refine x_iconst 90 C dX11_isLetByAnswer_89 rfl ?_
                  refine x_goto 94 C dX11_isLetByAnswer_90 (by decide) ?_
                  exact hJ94 _ (by rw [hlt3]; first | (rw [decide_eq_false (show ¬ ta = 0 by omega)]; rfl) | (rw [decide_eq_true (show ta = 0 by omega), decide_eq_true (show rkAll R a = rkOrg R (R 25 pg.toNat) by omega)]; rfl) | (rw [decide_eq_true (show ta = 0 by omega), decide_eq_false h86]; rfl))
          · skip
            have n3 : R 14 a.toNat = -3 := hal.2.mp (by omega)
            refine x_aload_n 61 C dX11_isLetByAnswer_60 rfl rfl ?_
            refine x_getIv 64 702 C fr_X11_336 dX11_isLetByAnswer_61 rfl rfl rfl rfl (by assumption) (by first | assumption | rfl) ?_
            exact x_iret C dX11_isLetByAnswer_64 (nar_01 hta) ⟨vi (by rw [rkLt, if_neg n2, if_neg hcan, if_pos n3]; rcases hta with z | z <;> (subst z; rfl)), rfl⟩
        · skip
          have hcan : cr = 2 ∧ R 15 a.toNat = 0 := ⟨of_decide_eq_true h39, by omega⟩
          refine x_iconst 50 C dX11_isLetByAnswer_49 rfl ?_
          exact x_iret C dX11_isLetByAnswer_50 rfl ⟨vi (by rw [rkLt, if_neg n2, if_pos hcan]; rfl), rfl⟩
    · skip
      refine x_joinv 37 (fun vJ => vJ = bI (rkLt R cr ta a pg)) ?_ (fun hJ37 => ?_)
      · intro vJ hJ
        subst hJ
        exact x_iret C dX11_isLetByAnswer_37 (by first | rfl | exact nar_b _ | exact nar_01 (by first | assumption | omega)) ⟨vi rfl, rfl⟩
      · skip
        refine x_iload_n 29 C dX11_isLetByAnswer_28 rfl rfl ?_
        refine x_if_neB 32 36 C dX11_isLetByAnswer_29 rfl (by decide) (fun h29 => ?_) (fun h29 => ?_)
        · skip
          refine x_iconst 37 C dX11_isLetByAnswer_36 rfl ?_
          exact hJ37 _ (by rw [rkLt, if_pos (hal.1.mp (by omega))]; first | (rw [decide_eq_false (show ¬ ¬ cr = 2 from fun z => z (of_decide_eq_true h29))]; rfl) | (rw [decide_eq_true (show ¬ cr = 2 from of_decide_eq_false h29)]; rfl))
        · skip
          refine x_iconst 33 C dX11_isLetByAnswer_32 rfl ?_
          refine x_goto 37 C dX11_isLetByAnswer_33 (by decide) ?_
          exact hJ37 _ (by rw [rkLt, if_pos (hal.1.mp (by omega))]; first | (rw [decide_eq_false (show ¬ ¬ cr = 2 from fun z => z (of_decide_eq_true h29))]; rfl) | (rw [decide_eq_true (show ¬ cr = 2 from of_decide_eq_false h29)]; rfl))
  · skip
    refine x_aload_n 6 C dX11_isLetByAnswer_5 rfl rfl ?_
    refine x_getIv 9 1302 C fr_X11_339 dX11_isLetByAnswer_6 rfl rfl rfl rfl (by assumption) (by first | assumption | rfl) ?_
    refine x_iconst 10 C dX11_isLetByAnswer_9 rfl ?_
    refine x_icmp_ne 13 17 C dX11_isLetByAnswer_10 rfl (by decide) (by first | exact hRw _ _ | assumption | exact ⟨by omega, by omega⟩ | exact hw.1 _ _ | omega) (by first | exact hRw _ _ | assumption | exact ⟨by omega, by omega⟩ | exact hw.1 _ _ | omega) (fun h10 => ?_) (fun h10 => ?_)
    · skip
      refine x_iconst 18 C dX11_isLetByAnswer_17 rfl ?_
      exact hJ18 _ (by first | (rw [decide_eq_false h10]; rfl) | (rw [decide_eq_true (show cr = 2 by omega)]; rfl))
    · skip
      refine x_iconst 14 C dX11_isLetByAnswer_13 rfl ?_
      refine x_goto 18 C dX11_isLetByAnswer_14 (by decide) ?_
      exact hJ18 _ (by first | (rw [decide_eq_false h10]; rfl) | (rw [decide_eq_true (show cr = 2 by omega)]; rfl))
