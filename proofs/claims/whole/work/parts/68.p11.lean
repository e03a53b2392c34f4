/-! rows laid by program (wip/tools/genp.py) -/
/-- a cookie's line, a cookie, a hop -/
def rkCL (G : GT) (c : Nat) (n v w f t : Int) : Prop := gK G c = 6 ∧ gI G 600 c = n ∧ gI G 601 c = v ∧ gI G 603 c = w ∧ gI G 604 c = f ∧ gI G 605 c = t
def rkCo (G : GT) (B : Nat → Nat) (x : Nat) (n v w f t ho al pt go : Int) : Prop := gK G x = 5 ∧ (∃ c, gP G 500 x = some c ∧ rkCL G c n v w f t) ∧ gP G 501 x = some (rkAt G (B 1) ho) ∧ gI G 502 x = al ∧ gI G 503 x = pt ∧ gI G 504 x = go
def rkHv (G : GT) (B : Nat → Nat) (hp : Nat) (a me ta af nv pt : Int) : Prop := gK G hp = 7 ∧ gP G 700 hp = some (rkAt G (B 2) a) ∧ gI G 701 hp = me ∧ gI G 702 hp = ta ∧ gI G 703 hp = af ∧ gI G 704 hp = nv ∧ gI G 705 hp = pt
theorem rKind_t {f : Int} : rKind f = (rHas f 4 || rHas f 8) := by
  unfold rKind rLax rStrict
  cases rHas f 4 <;> cases rHas f 8 <;> rfl
def rkSfa (bl nv f pt me : Int) : Bool := if bl ≠ 0 ∧ nv = 0 ∧ pt = -1 then false else if (rHas f 4 || rHas f 8) = false then true else (!rHas f 8 && (decide (¬ nv = 0) && decide (me = 0)))
theorem bI_r (b : Bool) : InR (bI b) := by cases b <;> exact ⟨by decide, by decide⟩
theorem bI_inj {a b : Bool} (h : bI a = bI b) : a = b := by cases a <;> cases b <;> first | rfl | (exact absurd h (by decide))
set_option maxHeartbeats 2000000 in
set_option maxRecDepth 100000 in
theorem c_X3_has {E : EV} {l : Launch} {G : GT} {c1 : Nat} {f g : Int} (hk : gK G c1 = 6) (hf : gI G 604 c1 = f) (hg : InR g) : MT E l yX3_has cX3_has 2 (some .boolean) 0 0 0 0 [.ref c1, .int (i32 g)] (G) (pD (some (.int (i32 (bI (rHas f g))))) (G)) := by
  refine mt_of (own := RX3) (L := [some (.ref c1), some (.int (i32 g))]) (by decide +kernel) rfl (Nat.le_of_ble_eq_true rfl) (List.forall_mem_cons.mpr ⟨rfl, (List.forall_mem_cons.mpr ⟨rfl, (fun _ h => absurd h List.not_mem_nil)⟩)⟩) rfl ?_
  intro p e s m args below meth c C hin
  refine x_wf (fun hw => ?_)
  have rf : InR f := by (rw [← hf]; exact hw.1 _ _)
  refine x_joinv 14 (fun vJ => vJ = bI (rHas f g)) ?_ (fun hJ14 => ?_)
  · intro vJ hJ
    subst hJ
    exact x_iret C dX3_has_14 (by first | rfl | exact nar_b _ | exact nar_01 (by first | assumption | omega)) ⟨vi (rfl), rfl⟩
  · skip
    refine x_aload_n 1 C dX3_has_0 rfl rfl ?_
    refine x_getIv 4 604 C fr_X3_25 dX3_has_1 rfl rfl rfl rfl (by assumption) (by first | assumption | rfl) ?_
    refine x_iload_n 5 C dX3_has_4 rfl rfl ?_
    refine x_iand 6 C dX3_has_5 rfl ?_
    refine x_if_eq 9 13 C dX3_has_6 rfl (by decide) (iand_in _ _) (fun h6 => ?_) (fun h6 => ?_)
    · skip
      refine x_iconst 14 C dX3_has_13 rfl ?_
      exact hJ14 _ (by first | (rw [show rHas f g = false from decide_eq_false (fun z => z h6)]; rfl) | (rw [show rHas f g = true from decide_eq_true h6]; rfl))
    · skip
      refine x_iconst 10 C dX3_has_9 rfl ?_
      refine x_goto 14 C dX3_has_10 (by decide) ?_
      exact hJ14 _ (by first | (rw [show rHas f g = false from decide_eq_false (fun z => z h6)]; rfl) | (rw [show rHas f g = true from decide_eq_true h6]; rfl))
set_option maxHeartbeats 2000000 in
set_option maxRecDepth 100000 in
theorem c_X3_isLaxOrStrict {E : EV} {l : Launch} {G : GT} {c1 : Nat} {f : Int} (hk : gK G c1 = 6) (hf : gI G 604 c1 = f) : MT E l yX3_isLaxOrStrict cX3_isLaxOrStrict 1 (some .boolean) 1 21 0 0 [.ref c1] (G) (pD (some (.int (i32 (bI (rHas f 4 || rHas f 8))))) (G)) := by
  refine mt_of (own := RX3) (L := [some (.ref c1)]) (by decide +kernel) rfl (Nat.le_of_ble_eq_true rfl) (List.forall_mem_cons.mpr ⟨rfl, (fun _ h => absurd h List.not_mem_nil)⟩) rfl ?_
  intro p e s m args below meth c C hin
  refine x_wf (fun hw => ?_)
  refine x_joinv 22 (fun vJ => vJ = bI (rHas f 4 || rHas f 8)) ?_ (fun hJ22 => ?_)
  · intro vJ hJ
    subst hJ
    exact x_iret C dX3_isLaxOrStrict_22 (by first | rfl | exact nar_b _ | exact nar_01 (by first | assumption | omega)) ⟨vi (rfl), rfl⟩
  · skip
    refine x_aload_n 1 C dX3_isLaxOrStrict_0 rfl rfl ?_
    refine x_iconst 2 C dX3_isLaxOrStrict_1 rfl ?_
    refine x_callV (As := [_]) 5 6 0 0 C vw_X3_31 iw_X3_has sw_X3_has (c_X3_has (by assumption) (by assumption) ⟨by omega, by omega⟩) dX3_isLaxOrStrict_2 rfl rfl rfl rfl rfl rfl (by assumption) ⟨Nat.le_of_ble_eq_true rfl, Nat.le_of_ble_eq_true rfl⟩ (Nat.le_of_ble_eq_true rfl) ⟨Nat.le_refl _, Nat.le_refl _⟩ (fun v G' hq => ?_)
    obtain ⟨rfl, hG9⟩ := hq
    replace hG9 := hG9.symm
    subst hG9
    refine x_as rfl rfl rfl ?_
    refine x_if_neB 8 17 C dX3_isLaxOrStrict_5 rfl (by decide) (fun h5 => ?_) (fun h5 => ?_)
    · skip
      refine x_iconst 18 C dX3_isLaxOrStrict_17 rfl ?_
      refine x_goto 22 C dX3_isLaxOrStrict_18 (by decide) ?_
      exact hJ22 _ (by first | (simp [bI, h5]; done) | (simp [bI, h5]; omega) | (simp [bI, h5] at *; omega))
    · skip
      refine x_aload_n 9 C dX3_isLaxOrStrict_8 rfl rfl ?_
      refine x_bipush 11 C dX3_isLaxOrStrict_9 rfl (by decide) ?_
      refine x_callV (As := [_]) 14 6 0 0 C vw_X3_31 iw_X3_has sw_X3_has (c_X3_has (by assumption) (by assumption) ⟨by omega, by omega⟩) dX3_isLaxOrStrict_11 rfl rfl rfl rfl rfl rfl (by assumption) ⟨Nat.le_of_ble_eq_true rfl, Nat.le_of_ble_eq_true rfl⟩ (Nat.le_of_ble_eq_true rfl) ⟨Nat.le_refl _, Nat.le_refl _⟩ (fun v G' hq => ?_)
      obtain ⟨rfl, hG9⟩ := hq
      replace hG9 := hG9.symm
      subst hG9
      refine x_as rfl rfl rfl ?_
      refine x_if_eqB 17 21 C dX3_isLaxOrStrict_14 rfl (by decide) (fun h14 => ?_) (fun h14 => ?_)
      · skip
        refine x_iconst 22 C dX3_isLaxOrStrict_21 rfl ?_
        exact hJ22 _ (by first | (simp [bI, h5, h14]; done) | (simp [bI, h5, h14]; omega) | (simp [bI, h5, h14] at *; omega))
      · skip
        refine x_iconst 18 C dX3_isLaxOrStrict_17 rfl ?_
        refine x_goto 22 C dX3_isLaxOrStrict_18 (by decide) ?_
        exact hJ22 _ (by first | (simp [bI, h5, h14]; done) | (simp [bI, h5, h14]; omega) | (simp [bI, h5, h14] at *; omega))
set_option maxHeartbeats 2000000 in
set_option maxRecDepth 100000 in
theorem c_X3_nameAndValue {E : EV} {l : Launch} {G : GT} {c1 : Nat} {n v : Int} (hk : gK G c1 = 6) (hn : gI G 600 c1 = n) (hv : gI G 601 c1 = v) : MT E l yX3_nameAndValue cX3_nameAndValue 1 (some .int) 0 0 0 0 [.ref c1] (G) (pD (some (.int (i32 (1000 * n + v)))) (G)) := by
  refine mt_of (own := RX3) (L := [some (.ref c1)]) (by decide +kernel) rfl (Nat.le_of_ble_eq_true rfl) (List.forall_mem_cons.mpr ⟨rfl, (fun _ h => absurd h List.not_mem_nil)⟩) rfl ?_
  intro p e s m args below meth c C hin
  refine x_wf (fun hw => ?_)
  refine x_sipush 3 C dX3_nameAndValue_0 rfl (by decide) ?_
  refine x_aload_n 4 C dX3_nameAndValue_3 rfl rfl ?_
  refine x_getIv 7 600 C fr_X3_9 dX3_nameAndValue_4 rfl rfl rfl rfl (by assumption) (by first | assumption | rfl) ?_
  refine x_imul 8 C dX3_nameAndValue_7 rfl ?_
  refine x_aload_n 9 C dX3_nameAndValue_8 rfl rfl ?_
  refine x_getIv 12 601 C fr_X3_15 dX3_nameAndValue_9 rfl rfl rfl rfl (by assumption) (by first | assumption | rfl) ?_
  refine x_iadd 13 C dX3_nameAndValue_12 rfl ?_
  exact x_iret C dX3_nameAndValue_13 rfl ⟨vi (rfl), rfl⟩
set_option maxHeartbeats 2000000 in
set_option maxRecDepth 100000 in
theorem c_X2_isSeenAt {E : EV} {l : Launch} {G : GT} {B : Nat → Nat} {x : Nat} {n v w f t ho al pt go : Int} (hx : rkCo G B x n v w f t ho al pt go) {hp : Nat} {a me ta af nv qt : Int} (hh : rkHv G B hp a me ta af nv qt) : MT E l yX2_isSeenAt cX2_isSeenAt 2 (some .boolean) 0 0 0 0 [.ref x, .ref hp] (G) (pD (some (.int (i32 (bI (decide (pt = -1) || decide (pt = qt)))))) (G)) := by
  refine mt_of (own := RX2) (L := [some (.ref x), some (.ref hp)]) (by decide +kernel) rfl (Nat.le_of_ble_eq_true rfl) (List.forall_mem_cons.mpr ⟨rfl, (List.forall_mem_cons.mpr ⟨rfl, (fun _ h => absurd h List.not_mem_nil)⟩)⟩) rfl ?_
  intro p e s m args below meth c C hin
  refine x_wf (fun hw => ?_)
  obtain ⟨ck, ⟨cl, cp, lk, l0, l1, l3, l4, l5⟩, cq, c2, c3, c4⟩ := id hx
  have rn : InR n := by (rw [← l0]; exact hw.1 _ _)
  have rv : InR v := by (rw [← l1]; exact hw.1 _ _)
  have rw : InR w := by (rw [← l3]; exact hw.1 _ _)
  have rf : InR f := by (rw [← l4]; exact hw.1 _ _)
  have rt : InR t := by (rw [← l5]; exact hw.1 _ _)
  have ral : InR al := by (rw [← c2]; exact hw.1 _ _)
  have rpt : InR pt := by (rw [← c3]; exact hw.1 _ _)
  have rgo : InR go := by (rw [← c4]; exact hw.1 _ _)
  obtain ⟨hk, hp0, hp1, hp2, hp3, hp4, hp5⟩ := id hh
  have rme : InR me := by (rw [← hp1]; exact hw.1 _ _)
  have rta : InR ta := by (rw [← hp2]; exact hw.1 _ _)
  have raf : InR af := by (rw [← hp3]; exact hw.1 _ _)
  have rnv : InR nv := by (rw [← hp4]; exact hw.1 _ _)
  have rqt : InR qt := by (rw [← hp5]; exact hw.1 _ _)
  refine x_joinv 24 (fun vJ => vJ = bI (decide (pt = -1) || decide (pt = qt))) ?_ (fun hJ24 => ?_)
  · intro vJ hJ
    subst hJ
    exact x_iret C dX2_isSeenAt_24 (by first | rfl | exact nar_b _ | exact nar_01 (by first | assumption | omega)) ⟨vi (rfl), rfl⟩
  · skip
    refine x_aload_n 1 C dX2_isSeenAt_0 rfl rfl ?_
    refine x_getIv 4 503 C fr_X2_50 dX2_isSeenAt_1 rfl rfl rfl rfl (by assumption) (by first | assumption | rfl) ?_
    refine x_iconst 5 C dX2_isSeenAt_4 rfl ?_
    refine x_icmp_eq 8 19 C dX2_isSeenAt_5 rfl (by decide) (by first | assumption | exact ⟨by omega, by omega⟩ | exact hw.1 _ _ | omega) (by first | assumption | exact ⟨by omega, by omega⟩ | exact hw.1 _ _ | omega) (fun h5 => ?_) (fun h5 => ?_)
    · skip
      refine x_iconst 20 C dX2_isSeenAt_19 rfl ?_
      refine x_goto 24 C dX2_isSeenAt_20 (by decide) ?_
      exact hJ24 _ (by first | (simp [bI, h5]; done) | (simp [bI, h5]; omega) | (simp [bI, h5] at *; omega))
    · skip
      refine x_aload_n 9 C dX2_isSeenAt_8 rfl rfl ?_
      refine x_getIv 12 503 C fr_X2_50 dX2_isSeenAt_9 rfl rfl rfl rfl (by assumption) (by first | assumption | rfl) ?_
      refine x_aload_n 13 C dX2_isSeenAt_12 rfl rfl ?_
      refine x_getIv 16 705 C fr_X2_46 dX2_isSeenAt_13 rfl rfl rfl rfl (by assumption) (by first | assumption | rfl) ?_
      refine x_icmp_ne 19 23 C dX2_isSeenAt_16 rfl (by decide) (by first | assumption | exact ⟨by omega, by omega⟩ | exact hw.1 _ _ | omega) (by first | assumption | exact ⟨by omega, by omega⟩ | exact hw.1 _ _ | omega) (fun h16 => ?_) (fun h16 => ?_)
      · skip
        refine x_iconst 24 C dX2_isSeenAt_23 rfl ?_
        exact hJ24 _ (by first | (simp [bI, h5, h16]; done) | (simp [bI, h5, h16]; omega) | (simp [bI, h5, h16] at *; omega))
      · skip
        refine x_iconst 20 C dX2_isSeenAt_19 rfl ?_
        refine x_goto 24 C dX2_isSeenAt_20 (by decide) ?_
        exact hJ24 _ (by first | (simp [bI, h5, h16]; done) | (simp [bI, h5, h16]; omega) | (simp [bI, h5, h16] at *; omega))
set_option maxHeartbeats 2000000 in
set_option maxRecDepth 100000 in
theorem c_X2_isGone {E : EV} {l : Launch} {G : GT} {B : Nat → Nat} {u : Int} (hu : InR u) {x : Nat} {n v w f t ho al pt go : Int} (hx : rkCo G B x n v w f t ho al pt go) : MT E l yX2_isGone cX2_isGone 2 (some .boolean) 0 0 0 0 [.ref x, .int (i32 u)] (G) (pD (some (.int (i32 (bI (decide (¬ t = 0) && decide (go ≤ u)))))) (G)) := by
  refine mt_of (own := RX2) (L := [some (.ref x), some (.int (i32 u))]) (by decide +kernel) rfl (Nat.le_of_ble_eq_true rfl) (List.forall_mem_cons.mpr ⟨rfl, (List.forall_mem_cons.mpr ⟨rfl, (fun _ h => absurd h List.not_mem_nil)⟩)⟩) rfl ?_
  intro p e s m args below meth c C hin
  refine x_wf (fun hw => ?_)
  obtain ⟨ck, ⟨cl, cp, lk, l0, l1, l3, l4, l5⟩, cq, c2, c3, c4⟩ := id hx
  have rn : InR n := by (rw [← l0]; exact hw.1 _ _)
  have rv : InR v := by (rw [← l1]; exact hw.1 _ _)
  have rw : InR w := by (rw [← l3]; exact hw.1 _ _)
  have rf : InR f := by (rw [← l4]; exact hw.1 _ _)
  have rt : InR t := by (rw [← l5]; exact hw.1 _ _)
  have ral : InR al := by (rw [← c2]; exact hw.1 _ _)
  have rpt : InR pt := by (rw [← c3]; exact hw.1 _ _)
  have rgo : InR go := by (rw [← c4]; exact hw.1 _ _)
  refine x_joinv 23 (fun vJ => vJ = bI (decide (¬ t = 0) && decide (go ≤ u))) ?_ (fun hJ23 => ?_)
  · intro vJ hJ
    subst hJ
    exact x_iret C dX2_isGone_23 (by first | rfl | exact nar_b _ | exact nar_01 (by first | assumption | omega)) ⟨vi (rfl), rfl⟩
  · skip
    refine x_aload_n 1 C dX2_isGone_0 rfl rfl ?_
    refine x_getO 4 500 C fr_X2_21 dX2_isGone_1 rfl rfl rfl rfl (by assumption) (by assumption) ?_
    refine x_getIv 7 605 C fr_X2_51 dX2_isGone_4 rfl rfl rfl rfl (by assumption) (by first | assumption | rfl) ?_
    refine x_if_eq 10 22 C dX2_isGone_7 rfl (by decide) (by first | assumption | exact ⟨by omega, by omega⟩ | exact hw.1 _ _ | omega) (fun h7 => ?_) (fun h7 => ?_)
    · skip
      refine x_iconst 23 C dX2_isGone_22 rfl ?_
      exact hJ23 _ (by first | (simp [bI, h7]; done) | (simp [bI, h7]; omega) | (simp [bI, h7] at *; omega))
    · skip
      refine x_iload_n 11 C dX2_isGone_10 rfl rfl ?_
      refine x_aload_n 12 C dX2_isGone_11 rfl rfl ?_
      refine x_getIv 15 504 C fr_X2_54 dX2_isGone_12 rfl rfl rfl rfl (by assumption) (by first | assumption | rfl) ?_
      refine x_icmp_lt 18 22 C dX2_isGone_15 rfl (by decide) (by first | assumption | exact ⟨by omega, by omega⟩ | exact hw.1 _ _ | omega) (by first | assumption | exact ⟨by omega, by omega⟩ | exact hw.1 _ _ | omega) (fun h15 => ?_) (fun h15 => ?_)
      · skip
        refine x_iconst 23 C dX2_isGone_22 rfl ?_
        exact hJ23 _ (by first | (simp [bI, h7, h15]; done) | (simp [bI, h7, h15]; omega) | (simp [bI, h7, h15] at *; omega))
      · skip
        refine x_iconst 19 C dX2_isGone_18 rfl ?_
        refine x_goto 23 C dX2_isGone_19 (by decide) ?_
        exact hJ23 _ (by first | (simp [bI, h7, h15]; done) | (simp [bI, h7, h15]; omega) | (simp [bI, h7, h15] at *; omega))
set_option maxHeartbeats 2000000 in
set_option maxRecDepth 100000 in
theorem c_X2_isSame {E : EV} {l : Launch} {G : GT} {B : Nat → Nat} {R : RT} (hW : rkW G B R) {x : Nat} {n v w f t ho al pt go : Int} (hx : rkCo G B x n v w f t ho al pt go) {y : Nat} {n0 v0 w0 f0 t0 ho0 al0 pt0 go0 : Int} (hy : rkCo G B y n0 v0 w0 f0 t0 ho0 al0 pt0 go0) (ho1 : 0 ≤ ho ∧ ho < R 3 0) (ho2 : 0 ≤ ho0 ∧ ho0 < R 3 0) : MT E l yX2_isSame cX2_isSame 2 (some .boolean) 0 0 0 0 [.ref x, .ref y] (G) (pD (some (.int (i32 (bI (decide (n = n0) && (decide (ho = ho0) && (decide (w = w0) && decide (pt = pt0)))))))) (G)) := by
  refine mt_of (own := RX2) (L := [some (.ref x), some (.ref y)]) (by decide +kernel) rfl (Nat.le_of_ble_eq_true rfl) (List.forall_mem_cons.mpr ⟨rfl, (List.forall_mem_cons.mpr ⟨rfl, (fun _ h => absurd h List.not_mem_nil)⟩)⟩) rfl ?_
  intro p e s m args below meth c C hin
  refine x_wf (fun hw => ?_)
  obtain ⟨hB, hH, hA, hP, hI⟩ := id hW
  obtain ⟨⟨b0, b6, b7⟩, ⟨bk1, bk2, bk3, bk4, bk5, bk8, bk9⟩, ⟨bp0, bp1, bp2, bp3, bp4, bp5, bp6, bp7, bp8⟩, -⟩ := id hB
  obtain ⟨hl1, hh1⟩ := id hH
  obtain ⟨hl2, hh2⟩ := id hA
  obtain ⟨hl3, hh3⟩ := id hP
  obtain ⟨iH, iA, iAd, iHl, iP, iS, hRw, iU⟩ := id hI
  have iH1 := iH.1
  have iA1 := iA.1
  have iA2 := iA.2
  have iP1 := iP.1
  obtain ⟨ck, ⟨cl, cp, lk, l0, l1, l3, l4, l5⟩, cq, c2, c3, c4⟩ := id hx
  have rn : InR n := by (rw [← l0]; exact hw.1 _ _)
  have rv : InR v := by (rw [← l1]; exact hw.1 _ _)
  have rw : InR w := by (rw [← l3]; exact hw.1 _ _)
  have rf : InR f := by (rw [← l4]; exact hw.1 _ _)
  have rt : InR t := by (rw [← l5]; exact hw.1 _ _)
  have ral : InR al := by (rw [← c2]; exact hw.1 _ _)
  have rpt : InR pt := by (rw [← c3]; exact hw.1 _ _)
  have rgo : InR go := by (rw [← c4]; exact hw.1 _ _)
  obtain ⟨ck0, ⟨cl0, cp0, lk0, l00, l10, l30, l40, l50⟩, cq0, c20, c30, c40⟩ := id hy
  have rn0 : InR n0 := by (rw [← l00]; exact hw.1 _ _)
  have rv0 : InR v0 := by (rw [← l10]; exact hw.1 _ _)
  have rw0 : InR w0 := by (rw [← l30]; exact hw.1 _ _)
  have rf0 : InR f0 := by (rw [← l40]; exact hw.1 _ _)
  have rt0 : InR t0 := by (rw [← l50]; exact hw.1 _ _)
  have ral0 : InR al0 := by (rw [← c20]; exact hw.1 _ _)
  have rpt0 : InR pt0 := by (rw [← c30]; exact hw.1 _ _)
  have rgo0 : InR go0 := by (rw [← c40]; exact hw.1 _ _)
  refine x_joinv 61 (fun vJ => vJ = bI (decide (n = n0) && (decide (ho = ho0) && (decide (w = w0) && decide (pt = pt0))))) ?_ (fun hJ61 => ?_)
  · intro vJ hJ
    subst hJ
    exact x_iret C dX2_isSame_61 (by first | rfl | exact nar_b _ | exact nar_01 (by first | assumption | omega)) ⟨vi (rfl), rfl⟩
  · skip
    refine x_aload_n 1 C dX2_isSame_0 rfl rfl ?_
    refine x_getO 4 500 C fr_X2_21 dX2_isSame_1 rfl rfl rfl rfl (by assumption) (by assumption) ?_
    refine x_getIv 7 600 C fr_X2_57 dX2_isSame_4 rfl rfl rfl rfl (by assumption) (by first | assumption | rfl) ?_
    refine x_aload_n 8 C dX2_isSame_7 rfl rfl ?_
    refine x_getO 11 500 C fr_X2_21 dX2_isSame_8 rfl rfl rfl rfl (by assumption) (by assumption) ?_
    refine x_getIv 14 600 C fr_X2_57 dX2_isSame_11 rfl rfl rfl rfl (by assumption) (by first | assumption | rfl) ?_
    refine x_icmp_ne 17 60 C dX2_isSame_14 rfl (by decide) (by first | assumption | exact ⟨by omega, by omega⟩ | exact hw.1 _ _ | omega) (by first | assumption | exact ⟨by omega, by omega⟩ | exact hw.1 _ _ | omega) (fun h14 => ?_) (fun h14 => ?_)
    · skip
      refine x_iconst 61 C dX2_isSame_60 rfl ?_
      exact hJ61 _ (by first | (rw [decide_eq_true (by assumption), decide_eq_true heq, decide_eq_true (by assumption), decide_eq_true (by assumption)]; rfl) | (rw [decide_eq_false h14]; rfl) | (rw [decide_eq_false hne, Bool.false_and, Bool.and_false]; rfl) | (rw [decide_eq_false h42, Bool.false_and, Bool.and_false, Bool.and_false]; rfl) | (rw [decide_eq_false h53, Bool.and_false, Bool.and_false, Bool.and_false]; rfl))
    · skip
      refine x_aload_n 18 C dX2_isSame_17 rfl rfl ?_
      refine x_getO 21 501 C fr_X2_41 dX2_isSame_18 rfl rfl rfl rfl (by assumption) (by assumption) ?_
      refine x_aload_n 22 C dX2_isSame_21 rfl rfl ?_
      refine x_getO 25 501 C fr_X2_41 dX2_isSame_22 rfl rfl rfl rfl (by assumption) (by assumption) ?_
      refine x_acmp_ne (rx := some _) (ry := some _) 28 60 C dX2_isSame_25 rfl (by decide) (fun h25 => ?_) (fun h25 => ?_)
      · skip
        have hne : ¬ ho = ho0 := fun z => h25 (by rw [z])
        refine x_iconst 61 C dX2_isSame_60 rfl ?_
        exact hJ61 _ (by first | (rw [decide_eq_true (by assumption), decide_eq_true heq, decide_eq_true (by assumption), decide_eq_true (by assumption)]; rfl) | (rw [decide_eq_false h14]; rfl) | (rw [decide_eq_false hne, Bool.false_and, Bool.and_false]; rfl) | (rw [decide_eq_false h42, Bool.false_and, Bool.and_false, Bool.and_false]; rfl) | (rw [decide_eq_false h53, Bool.and_false, Bool.and_false, Bool.and_false]; rfl))
      · skip
        have heq : ho = ho0 := rkAt_inj (f := 800) (fun i a b => (hh1 i a b).2.1) ho1 ho2 (Option.some.inj h25)
        refine x_aload_n 29 C dX2_isSame_28 rfl rfl ?_
        refine x_getO 32 500 C fr_X2_21 dX2_isSame_29 rfl rfl rfl rfl (by assumption) (by assumption) ?_
        refine x_getIv 35 603 C fr_X2_60 dX2_isSame_32 rfl rfl rfl rfl (by assumption) (by first | assumption | rfl) ?_
        refine x_aload_n 36 C dX2_isSame_35 rfl rfl ?_
        refine x_getO 39 500 C fr_X2_21 dX2_isSame_36 rfl rfl rfl rfl (by assumption) (by assumption) ?_
        refine x_getIv 42 603 C fr_X2_60 dX2_isSame_39 rfl rfl rfl rfl (by assumption) (by first | assumption | rfl) ?_
        refine x_icmp_ne 45 60 C dX2_isSame_42 rfl (by decide) (by first | assumption | exact ⟨by omega, by omega⟩ | exact hw.1 _ _ | omega) (by first | assumption | exact ⟨by omega, by omega⟩ | exact hw.1 _ _ | omega) (fun h42 => ?_) (fun h42 => ?_)
        · skip
          refine x_iconst 61 C dX2_isSame_60 rfl ?_
          exact hJ61 _ (by first | (rw [decide_eq_true (by assumption), decide_eq_true heq, decide_eq_true (by assumption), decide_eq_true (by assumption)]; rfl) | (rw [decide_eq_false h14]; rfl) | (rw [decide_eq_false hne, Bool.false_and, Bool.and_false]; rfl) | (rw [decide_eq_false h42, Bool.false_and, Bool.and_false, Bool.and_false]; rfl) | (rw [decide_eq_false h53, Bool.and_false, Bool.and_false, Bool.and_false]; rfl))
        · skip
          refine x_aload_n 46 C dX2_isSame_45 rfl rfl ?_
          refine x_getIv 49 503 C fr_X2_50 dX2_isSame_46 rfl rfl rfl rfl (by assumption) (by first | assumption | rfl) ?_
          refine x_aload_n 50 C dX2_isSame_49 rfl rfl ?_
          refine x_getIv 53 503 C fr_X2_50 dX2_isSame_50 rfl rfl rfl rfl (by assumption) (by first | assumption | rfl) ?_
          refine x_icmp_ne 56 60 C dX2_isSame_53 rfl (by decide) (by first | assumption | exact ⟨by omega, by omega⟩ | exact hw.1 _ _ | omega) (by first | assumption | exact ⟨by omega, by omega⟩ | exact hw.1 _ _ | omega) (fun h53 => ?_) (fun h53 => ?_)
          · skip
            refine x_iconst 61 C dX2_isSame_60 rfl ?_
            exact hJ61 _ (by first | (rw [decide_eq_true (by assumption), decide_eq_true heq, decide_eq_true (by assumption), decide_eq_true (by assumption)]; rfl) | (rw [decide_eq_false h14]; rfl) | (rw [decide_eq_false hne, Bool.false_and, Bool.and_false]; rfl) | (rw [decide_eq_false h42, Bool.false_and, Bool.and_false, Bool.and_false]; rfl) | (rw [decide_eq_false h53, Bool.and_false, Bool.and_false, Bool.and_false]; rfl))
          · skip
            refine x_iconst 57 C dX2_isSame_56 rfl ?_
            refine x_goto 61 C dX2_isSame_57 (by decide) ?_
            exact hJ61 _ (by first | (rw [decide_eq_true (by assumption), decide_eq_true heq, decide_eq_true (by assumption), decide_eq_true (by assumption)]; rfl) | (rw [decide_eq_false h14]; rfl) | (rw [decide_eq_false hne, Bool.false_and, Bool.and_false]; rfl) | (rw [decide_eq_false h42, Bool.false_and, Bool.and_false, Bool.and_false]; rfl) | (rw [decide_eq_false h53, Bool.and_false, Bool.and_false, Bool.and_false]; rfl))
set_option maxHeartbeats 2000000 in
set_option maxRecDepth 100000 in
theorem c_X2_sharesLimitWith {E : EV} {l : Launch} {G : GT} {B : Nat → Nat} {R : RT} (hW : rkW G B R) {x : Nat} {n v w f t ho al pt go : Int} (hx : rkCo G B x n v w f t ho al pt go) {y : Nat} {n0 v0 w0 f0 t0 ho0 al0 pt0 go0 : Int} (hy : rkCo G B y n0 v0 w0 f0 t0 ho0 al0 pt0 go0) (ho1 : 0 ≤ ho ∧ ho < R 3 0) (ho2 : 0 ≤ ho0 ∧ ho0 < R 3 0) : MT E l yX2_sharesLimitWith cX2_sharesLimitWith 2 (some .boolean) 1 21 0 0 [.ref x, .ref y] (G) (pD (some (.int (i32 (bI (decide (rSiteOf R ho = rSiteOf R ho0) && decide (pt = pt0)))))) (G)) := by
  refine mt_of (own := RX2) (L := [some (.ref x), some (.ref y)]) (by decide +kernel) rfl (Nat.le_of_ble_eq_true rfl) (List.forall_mem_cons.mpr ⟨rfl, (List.forall_mem_cons.mpr ⟨rfl, (fun _ h => absurd h List.not_mem_nil)⟩)⟩) rfl ?_
  intro p e s m args below meth c C hin
  refine x_wf (fun hw => ?_)
  obtain ⟨hB, hH, hA, hP, hI⟩ := id hW
  obtain ⟨⟨b0, b6, b7⟩, ⟨bk1, bk2, bk3, bk4, bk5, bk8, bk9⟩, ⟨bp0, bp1, bp2, bp3, bp4, bp5, bp6, bp7, bp8⟩, -⟩ := id hB
  obtain ⟨hl1, hh1⟩ := id hH
  obtain ⟨hl2, hh2⟩ := id hA
  obtain ⟨hl3, hh3⟩ := id hP
  obtain ⟨iH, iA, iAd, iHl, iP, iS, hRw, iU⟩ := id hI
  have iH1 := iH.1
  have iA1 := iA.1
  have iA2 := iA.2
  have iP1 := iP.1
  obtain ⟨ck, ⟨cl, cp, lk, l0, l1, l3, l4, l5⟩, cq, c2, c3, c4⟩ := id hx
  have rn : InR n := by (rw [← l0]; exact hw.1 _ _)
  have rv : InR v := by (rw [← l1]; exact hw.1 _ _)
  have rw : InR w := by (rw [← l3]; exact hw.1 _ _)
  have rf : InR f := by (rw [← l4]; exact hw.1 _ _)
  have rt : InR t := by (rw [← l5]; exact hw.1 _ _)
  have ral : InR al := by (rw [← c2]; exact hw.1 _ _)
  have rpt : InR pt := by (rw [← c3]; exact hw.1 _ _)
  have rgo : InR go := by (rw [← c4]; exact hw.1 _ _)
  obtain ⟨ck0, ⟨cl0, cp0, lk0, l00, l10, l30, l40, l50⟩, cq0, c20, c30, c40⟩ := id hy
  have rn0 : InR n0 := by (rw [← l00]; exact hw.1 _ _)
  have rv0 : InR v0 := by (rw [← l10]; exact hw.1 _ _)
  have rw0 : InR w0 := by (rw [← l30]; exact hw.1 _ _)
  have rf0 : InR f0 := by (rw [← l40]; exact hw.1 _ _)
  have rt0 : InR t0 := by (rw [← l50]; exact hw.1 _ _)
  have ral0 : InR al0 := by (rw [← c20]; exact hw.1 _ _)
  have rpt0 : InR pt0 := by (rw [← c30]; exact hw.1 _ _)
  have rgo0 : InR go0 := by (rw [← c40]; exact hw.1 _ _)
  have s1 := rSiteOf_in iH ho1.1 ho1.2
  have s2 := rSiteOf_in iH ho2.1 ho2.2
  have gk1 := (hh1 ho ho1.1 ho1.2).1
  have gk2 := (hh1 ho0 ho2.1 ho2.2).1
  refine x_joinv 33 (fun vJ => vJ = bI (decide (rSiteOf R ho = rSiteOf R ho0) && decide (pt = pt0))) ?_ (fun hJ33 => ?_)
  · intro vJ hJ
    subst hJ
    exact x_iret C dX2_sharesLimitWith_33 (by first | rfl | exact nar_b _ | exact nar_01 (by first | assumption | omega)) ⟨vi (rfl), rfl⟩
  · skip
    refine x_aload_n 1 C dX2_sharesLimitWith_0 rfl rfl ?_
    refine x_getIv 4 503 C fr_X2_50 dX2_sharesLimitWith_1 rfl rfl rfl rfl (by assumption) (by first | assumption | rfl) ?_
    refine x_aload_n 5 C dX2_sharesLimitWith_4 rfl rfl ?_
    refine x_getIv 8 503 C fr_X2_50 dX2_sharesLimitWith_5 rfl rfl rfl rfl (by assumption) (by first | assumption | rfl) ?_
    refine x_icmp_ne 11 32 C dX2_sharesLimitWith_8 rfl (by decide) (by first | exact hRw _ _ | assumption | exact ⟨by omega, by omega⟩ | exact hw.1 _ _ | omega) (by first | exact hRw _ _ | assumption | exact ⟨by omega, by omega⟩ | exact hw.1 _ _ | omega) (fun h8 => ?_) (fun h8 => ?_)
    · skip
      refine x_iconst 33 C dX2_sharesLimitWith_32 rfl ?_
      exact hJ33 _ (by first | (rw [decide_eq_true heq, decide_eq_true h8]; rfl) | (rw [decide_eq_false hne]; rfl) | (rw [decide_eq_false h8, Bool.and_false]; rfl))
    · skip
      refine x_aload_n 12 C dX2_sharesLimitWith_11 rfl rfl ?_
      refine x_getO 15 501 C fr_X2_41 dX2_sharesLimitWith_12 rfl rfl rfl rfl (by assumption) (by assumption) ?_
      refine x_callV (As := []) 18 8 0 0 C vw_X2_63 iw_X5_siteHost sw_X5_siteHost (c_X5_siteHost hW ⟨by omega, by omega⟩) dX2_sharesLimitWith_15 rfl rfl rfl rfl rfl rfl (by assumption) ⟨Nat.le_of_ble_eq_true rfl, Nat.le_of_ble_eq_true rfl⟩ (Nat.le_of_ble_eq_true rfl) ⟨Nat.le_refl _, Nat.le_refl _⟩ (fun v G' hq => ?_)
      obtain ⟨rfl, hG9⟩ := hq
      replace hG9 := hG9.symm
      subst hG9
      refine x_as rfl rfl rfl ?_
      refine x_aload_n 19 C dX2_sharesLimitWith_18 rfl rfl ?_
      refine x_getO 22 501 C fr_X2_41 dX2_sharesLimitWith_19 rfl rfl rfl rfl (by assumption) (by assumption) ?_
      refine x_callV (As := []) 25 8 0 0 C vw_X2_63 iw_X5_siteHost sw_X5_siteHost (c_X5_siteHost hW ⟨by omega, by omega⟩) dX2_sharesLimitWith_22 rfl rfl rfl rfl rfl rfl (by assumption) ⟨Nat.le_of_ble_eq_true rfl, Nat.le_of_ble_eq_true rfl⟩ (Nat.le_of_ble_eq_true rfl) ⟨Nat.le_refl _, Nat.le_refl _⟩ (fun v G' hq => ?_)
      obtain ⟨rfl, hG9⟩ := hq
      replace hG9 := hG9.symm
      subst hG9
      refine x_as rfl rfl rfl ?_
      refine x_acmp_ne (rx := some _) (ry := some _) 28 32 C dX2_sharesLimitWith_25 rfl (by decide) (fun h25 => ?_) (fun h25 => ?_)
      · skip
        have hne : ¬ rSiteOf R ho = rSiteOf R ho0 := fun z => h25 (by rw [z])
        refine x_iconst 33 C dX2_sharesLimitWith_32 rfl ?_
        exact hJ33 _ (by first | (rw [decide_eq_true heq, decide_eq_true h8]; rfl) | (rw [decide_eq_false hne]; rfl) | (rw [decide_eq_false h8, Bool.and_false]; rfl))
      · skip
        have heq : rSiteOf R ho = rSiteOf R ho0 := rkAt_inj (f := 800) (fun i a b => (hh1 i a b).2.1) s1 s2 (Option.some.inj h25)
        refine x_iconst 29 C dX2_sharesLimitWith_28 rfl ?_
        refine x_goto 33 C dX2_sharesLimitWith_29 (by decide) ?_
        exact hJ33 _ (by first | (rw [decide_eq_true heq, decide_eq_true h8]; rfl) | (rw [decide_eq_false hne]; rfl) | (rw [decide_eq_false h8, Bool.and_false]; rfl))
set_option maxHeartbeats 2000000 in
set_option maxRecDepth 100000 in
theorem c_X2_goesBefore {E : EV} {l : Launch} {G : GT} {B : Nat → Nat} {lu lu0 : Int} {x : Nat} {n v w f t ho al pt go : Int} (hx : rkCo G B x n v w f t ho al pt go) {y : Nat} {n0 v0 w0 f0 t0 ho0 al0 pt0 go0 : Int} (hy : rkCo G B y n0 v0 w0 f0 t0 ho0 al0 pt0 go0) (hu1 : gI G 505 x = lu) (hu2 : gI G 505 y = lu0) : MT E l yX2_goesBefore cX2_goesBefore 3 (some .boolean) 1 21 0 0 [.ref x, .ref y] (G) (pD (some (.int (i32 (bI (if rHas f 1 = rHas f0 1 then decide (lu < lu0) else !rHas f 1))))) (G)) := by
  refine mt_of (own := RX2) (L := [some (.ref x), some (.ref y), none]) (by decide +kernel) rfl (Nat.le_of_ble_eq_true rfl) (List.forall_mem_cons.mpr ⟨rfl, (List.forall_mem_cons.mpr ⟨rfl, (fun _ h => absurd h List.not_mem_nil)⟩)⟩) rfl ?_
  intro p e s m args below meth c C hin
  refine x_wf (fun hw => ?_)
  obtain ⟨ck, ⟨cl, cp, lk, l0, l1, l3, l4, l5⟩, cq, c2, c3, c4⟩ := id hx
  have rn : InR n := by (rw [← l0]; exact hw.1 _ _)
  have rv : InR v := by (rw [← l1]; exact hw.1 _ _)
  have rw : InR w := by (rw [← l3]; exact hw.1 _ _)
  have rf : InR f := by (rw [← l4]; exact hw.1 _ _)
  have rt : InR t := by (rw [← l5]; exact hw.1 _ _)
  have ral : InR al := by (rw [← c2]; exact hw.1 _ _)
  have rpt : InR pt := by (rw [← c3]; exact hw.1 _ _)
  have rgo : InR go := by (rw [← c4]; exact hw.1 _ _)
  obtain ⟨ck0, ⟨cl0, cp0, lk0, l00, l10, l30, l40, l50⟩, cq0, c20, c30, c40⟩ := id hy
  have rn0 : InR n0 := by (rw [← l00]; exact hw.1 _ _)
  have rv0 : InR v0 := by (rw [← l10]; exact hw.1 _ _)
  have rw0 : InR w0 := by (rw [← l30]; exact hw.1 _ _)
  have rf0 : InR f0 := by (rw [← l40]; exact hw.1 _ _)
  have rt0 : InR t0 := by (rw [← l50]; exact hw.1 _ _)
  have ral0 : InR al0 := by (rw [← c20]; exact hw.1 _ _)
  have rpt0 : InR pt0 := by (rw [← c30]; exact hw.1 _ _)
  have rgo0 : InR go0 := by (rw [← c40]; exact hw.1 _ _)
  have rlu : InR lu := by (rw [← hu1]; exact hw.1 _ _)
  have rlu0 : InR lu0 := by (rw [← hu2]; exact hw.1 _ _)
  refine x_aload_n 1 C dX2_goesBefore_0 rfl rfl ?_
  refine x_getO 4 500 C fr_X2_21 dX2_goesBefore_1 rfl rfl rfl rfl (by assumption) (by assumption) ?_
  refine x_iconst 5 C dX2_goesBefore_4 rfl ?_
  refine x_callV (As := [_]) 8 6 0 0 C vw_X2_42 iw_X3_has sw_X3_has (c_X3_has (by assumption) (by assumption) ⟨by omega, by omega⟩) dX2_goesBefore_5 rfl rfl rfl rfl rfl rfl (by assumption) ⟨Nat.le_of_ble_eq_true rfl, Nat.le_of_ble_eq_true rfl⟩ (Nat.le_of_ble_eq_true rfl) ⟨Nat.le_refl _, Nat.le_refl _⟩ (fun v G' hq => ?_)
  obtain ⟨rfl, hG9⟩ := hq
  replace hG9 := hG9.symm
  subst hG9
  refine x_as rfl rfl rfl ?_
  refine x_istore_n 9 C dX2_goesBefore_8 rfl rfl rfl ?_
  refine x_joinv 49 (fun vJ => vJ = bI (if rHas f 1 = rHas f0 1 then decide (lu < lu0) else !rHas f 1)) ?_ (fun hJ49 => ?_)
  · intro vJ hJ
    subst hJ
    exact x_iret C dX2_goesBefore_49 (by first | rfl | exact nar_b _ | exact nar_01 (by first | assumption | omega)) ⟨vi (rfl), rfl⟩
  · skip
    refine x_iload_n 10 C dX2_goesBefore_9 rfl rfl ?_
    refine x_aload_n 11 C dX2_goesBefore_10 rfl rfl ?_
    refine x_getO 14 500 C fr_X2_21 dX2_goesBefore_11 rfl rfl rfl rfl (by assumption) (by assumption) ?_
    refine x_iconst 15 C dX2_goesBefore_14 rfl ?_
    refine x_callV (As := [_]) 18 6 0 0 C vw_X2_42 iw_X3_has sw_X3_has (c_X3_has (by assumption) (by assumption) ⟨by omega, by omega⟩) dX2_goesBefore_15 rfl rfl rfl rfl rfl rfl (by assumption) ⟨Nat.le_of_ble_eq_true rfl, Nat.le_of_ble_eq_true rfl⟩ (Nat.le_of_ble_eq_true rfl) ⟨Nat.le_refl _, Nat.le_refl _⟩ (fun v G' hq => ?_)
    obtain ⟨rfl, hG9⟩ := hq
    replace hG9 := hG9.symm
    subst hG9
    refine x_as rfl rfl rfl ?_
    refine x_icmp_ne 21 40 C dX2_goesBefore_18 rfl (by decide) (bI_r _) (bI_r _) (fun h18 => ?_) (fun h18 => ?_)
    · skip
      refine x_iload_n 41 C dX2_goesBefore_40 rfl rfl ?_
      refine x_if_neB 44 48 C dX2_goesBefore_41 rfl (by decide) (fun h41 => ?_) (fun h41 => ?_)
      · skip
        refine x_iconst 49 C dX2_goesBefore_48 rfl ?_
        exact hJ49 _ (by first | (rw [if_pos (bI_inj h18)]; first | (rw [decide_eq_true h29]; rfl) | (rw [decide_eq_false (by omega)]; rfl)) | (rw [if_neg (fun z => h18 (congrArg bI z))]; first | (rw [h41]; rfl)))
      · skip
        refine x_iconst 45 C dX2_goesBefore_44 rfl ?_
        refine x_goto 49 C dX2_goesBefore_45 (by decide) ?_
        exact hJ49 _ (by first | (rw [if_pos (bI_inj h18)]; first | (rw [decide_eq_true h29]; rfl) | (rw [decide_eq_false (by omega)]; rfl)) | (rw [if_neg (fun z => h18 (congrArg bI z))]; first | (rw [h41]; rfl)))
    · skip
      refine x_aload_n 22 C dX2_goesBefore_21 rfl rfl ?_
      refine x_getIv 25 505 C fr_X2_67 dX2_goesBefore_22 rfl rfl rfl rfl (by assumption) (by first | assumption | rfl) ?_
      refine x_aload_n 26 C dX2_goesBefore_25 rfl rfl ?_
      refine x_getIv 29 505 C fr_X2_67 dX2_goesBefore_26 rfl rfl rfl rfl (by assumption) (by first | assumption | rfl) ?_
      refine x_icmp_ge 32 36 C dX2_goesBefore_29 rfl (by decide) (by first | assumption | exact ⟨by omega, by omega⟩ | exact hw.1 _ _ | omega) (by first | assumption | exact ⟨by omega, by omega⟩ | exact hw.1 _ _ | omega) (fun h29 => ?_) (fun h29 => ?_)
      · skip
        refine x_iconst 37 C dX2_goesBefore_36 rfl ?_
        refine x_goto 49 C dX2_goesBefore_37 (by decide) ?_
        exact hJ49 _ (by first | (rw [if_pos (bI_inj h18)]; first | (rw [decide_eq_true h29]; rfl) | (rw [decide_eq_false (by omega)]; rfl)) | (rw [if_neg (fun z => h18 (congrArg bI z))]; first | (rw [h41]; rfl)))
      · skip
        refine x_iconst 33 C dX2_goesBefore_32 rfl ?_
        refine x_goto 49 C dX2_goesBefore_33 (by decide) ?_
        exact hJ49 _ (by first | (rw [if_pos (bI_inj h18)]; first | (rw [decide_eq_true h29]; rfl) | (rw [decide_eq_false (by omega)]; rfl)) | (rw [if_neg (fun z => h18 (congrArg bI z))]; first | (rw [h41]; rfl)))
set_option maxHeartbeats 2000000 in
set_option maxRecDepth 100000 in
theorem c_X6_isSentFromAfar {E : EV} {l : Launch} {G : GT} {B : Nat → Nat} {bl : Int} (hb : InR bl) {x : Nat} {n v w f t ho al pt go : Int} (hx : rkCo G B x n v w f t ho al pt go) {hp : Nat} {a me ta af nv qt : Int} (hh : rkHv G B hp a me ta af nv qt) : MT E l yX6_isSentFromAfar cX6_isSentFromAfar 3 (some .boolean) 2 41 0 0 [.ref x, .ref hp, .int (i32 bl)] (G) (pD (some (.int (i32 (bI (rkSfa bl nv f pt me))))) (G)) := by
  refine mt_of (own := RX6) (L := [some (.ref x), some (.ref hp), some (.int (i32 bl))]) (by decide +kernel) rfl (Nat.le_of_ble_eq_true rfl) (List.forall_mem_cons.mpr ⟨rfl, (List.forall_mem_cons.mpr ⟨rfl, (List.forall_mem_cons.mpr ⟨rfl, (fun _ h => absurd h List.not_mem_nil)⟩)⟩)⟩) rfl ?_
  intro p e s m args below meth c C hin
  refine x_wf (fun hw => ?_)
  obtain ⟨ck, ⟨cl, cp, lk, l0, l1, l3, l4, l5⟩, cq, c2, c3, c4⟩ := id hx
  have rn : InR n := by (rw [← l0]; exact hw.1 _ _)
  have rv : InR v := by (rw [← l1]; exact hw.1 _ _)
  have rw : InR w := by (rw [← l3]; exact hw.1 _ _)
  have rf : InR f := by (rw [← l4]; exact hw.1 _ _)
  have rt : InR t := by (rw [← l5]; exact hw.1 _ _)
  have ral : InR al := by (rw [← c2]; exact hw.1 _ _)
  have rpt : InR pt := by (rw [← c3]; exact hw.1 _ _)
  have rgo : InR go := by (rw [← c4]; exact hw.1 _ _)
  obtain ⟨hk, hp0, hp1, hp2, hp3, hp4, hp5⟩ := id hh
  have rme : InR me := by (rw [← hp1]; exact hw.1 _ _)
  have rta : InR ta := by (rw [← hp2]; exact hw.1 _ _)
  have raf : InR af := by (rw [← hp3]; exact hw.1 _ _)
  have rnv : InR nv := by (rw [← hp4]; exact hw.1 _ _)
  have rqt : InR qt := by (rw [← hp5]; exact hw.1 _ _)
  refine x_iload_n 1 C dX6_isSentFromAfar_0 rfl rfl ?_
  refine x_if_eq 4 21 C dX6_isSentFromAfar_1 rfl (by decide) (by first | assumption | exact ⟨by omega, by omega⟩ | exact hw.1 _ _ | omega) (fun h1 => ?_) (fun h1 => ?_)
  · skip
    refine x_aload_n 22 C dX6_isSentFromAfar_21 rfl rfl ?_
    refine x_getO 25 500 C fr_X6_40 dX6_isSentFromAfar_22 rfl rfl rfl rfl (by assumption) (by assumption) ?_
    refine x_callV (As := []) 28 6 0 0 C vw_X6_114 iw_X3_isLaxOrStrict sw_X3_isLaxOrStrict (c_X3_isLaxOrStrict (by assumption) (by assumption)) dX6_isSentFromAfar_25 rfl rfl rfl rfl rfl rfl (by assumption) ⟨Nat.le_of_ble_eq_true rfl, Nat.le_of_ble_eq_true rfl⟩ (Nat.le_of_ble_eq_true rfl) ⟨Nat.le_refl _, Nat.le_refl _⟩ (fun v G' hq => ?_)
    obtain ⟨rfl, hG9⟩ := hq
    replace hG9 := hG9.symm
    subst hG9
    refine x_as rfl rfl rfl ?_
    refine x_if_neB 31 33 C dX6_isSentFromAfar_28 rfl (by decide) (fun h28 => ?_) (fun h28 => ?_)
    · skip
      refine x_joinv 64 (fun vJ => vJ = bI (!rHas f 8 && (decide (¬ nv = 0) && decide (me = 0)))) ?_ (fun hJ64 => ?_)
      · intro vJ hJ
        subst hJ
        exact x_iret C dX6_isSentFromAfar_64 (by first | rfl | exact nar_b _ | exact nar_01 (by first | assumption | omega)) ⟨vi (by unfold rkSfa; rw [if_neg (by omega), if_neg (by rw [h28]; decide)]), rfl⟩
      · skip
        refine x_aload_n 34 C dX6_isSentFromAfar_33 rfl rfl ?_
        refine x_getO 37 500 C fr_X6_40 dX6_isSentFromAfar_34 rfl rfl rfl rfl (by assumption) (by assumption) ?_
        refine x_bipush 39 C dX6_isSentFromAfar_37 rfl (by decide) ?_
        refine x_callV (As := [_]) 42 6 0 0 C vw_X6_96 iw_X3_has sw_X3_has (c_X3_has (by assumption) (by assumption) ⟨by omega, by omega⟩) dX6_isSentFromAfar_39 rfl rfl rfl rfl rfl rfl (by assumption) ⟨Nat.le_of_ble_eq_true rfl, Nat.le_of_ble_eq_true rfl⟩ (Nat.le_of_ble_eq_true rfl) ⟨Nat.le_refl _, Nat.le_refl _⟩ (fun v G' hq => ?_)
        obtain ⟨rfl, hG9⟩ := hq
        replace hG9 := hG9.symm
        subst hG9
        refine x_as rfl rfl rfl ?_
        refine x_if_neB 45 63 C dX6_isSentFromAfar_42 rfl (by decide) (fun h42 => ?_) (fun h42 => ?_)
        · skip
          refine x_iconst 64 C dX6_isSentFromAfar_63 rfl ?_
          exact hJ64 _ (by first | (simp [bI, h42]; done) | (simp [bI, h42]; omega) | (simp [bI, h42] at *; omega))
        · skip
          refine x_aload_n 46 C dX6_isSentFromAfar_45 rfl rfl ?_
          refine x_getIv 49 704 C fr_X6_108 dX6_isSentFromAfar_46 rfl rfl rfl rfl (by assumption) (by first | assumption | rfl) ?_
          refine x_if_eq 52 63 C dX6_isSentFromAfar_49 rfl (by decide) (by first | assumption | exact ⟨by omega, by omega⟩ | exact hw.1 _ _ | omega) (fun h49 => ?_) (fun h49 => ?_)
          · skip
            refine x_iconst 64 C dX6_isSentFromAfar_63 rfl ?_
            exact hJ64 _ (by first | (simp [bI, h42, h49]; done) | (simp [bI, h42, h49]; omega) | (simp [bI, h42, h49] at *; omega))
          · skip
            refine x_aload_n 53 C dX6_isSentFromAfar_52 rfl rfl ?_
            refine x_getIv 56 701 C fr_X6_118 dX6_isSentFromAfar_53 rfl rfl rfl rfl (by assumption) (by first | assumption | rfl) ?_
            refine x_if_ne 59 63 C dX6_isSentFromAfar_56 rfl (by decide) (by first | assumption | exact ⟨by omega, by omega⟩ | exact hw.1 _ _ | omega) (fun h56 => ?_) (fun h56 => ?_)
            · skip
              refine x_iconst 64 C dX6_isSentFromAfar_63 rfl ?_
              exact hJ64 _ (by first | (simp [bI, h42, h49, h56]; done) | (simp [bI, h42, h49, h56]; omega) | (simp [bI, h42, h49, h56] at *; omega))
            · skip
              refine x_iconst 60 C dX6_isSentFromAfar_59 rfl ?_
              refine x_goto 64 C dX6_isSentFromAfar_60 (by decide) ?_
              exact hJ64 _ (by first | (simp [bI, h42, h49, h56]; done) | (simp [bI, h42, h49, h56]; omega) | (simp [bI, h42, h49, h56] at *; omega))
    · skip
      refine x_iconst 32 C dX6_isSentFromAfar_31 rfl ?_
      exact x_iret C dX6_isSentFromAfar_32 rfl ⟨vi (by unfold rkSfa; rw [if_neg (by omega), if_pos h28]; rfl), rfl⟩
  · skip
    refine x_aload_n 5 C dX6_isSentFromAfar_4 rfl rfl ?_
    refine x_getIv 8 704 C fr_X6_108 dX6_isSentFromAfar_5 rfl rfl rfl rfl (by assumption) (by first | assumption | rfl) ?_
    refine x_if_ne 11 21 C dX6_isSentFromAfar_8 rfl (by decide) (by first | assumption | exact ⟨by omega, by omega⟩ | exact hw.1 _ _ | omega) (fun h8 => ?_) (fun h8 => ?_)
    · skip
      refine x_aload_n 22 C dX6_isSentFromAfar_21 rfl rfl ?_
      refine x_getO 25 500 C fr_X6_40 dX6_isSentFromAfar_22 rfl rfl rfl rfl (by assumption) (by assumption) ?_
      refine x_callV (As := []) 28 6 0 0 C vw_X6_114 iw_X3_isLaxOrStrict sw_X3_isLaxOrStrict (c_X3_isLaxOrStrict (by assumption) (by assumption)) dX6_isSentFromAfar_25 rfl rfl rfl rfl rfl rfl (by assumption) ⟨Nat.le_of_ble_eq_true rfl, Nat.le_of_ble_eq_true rfl⟩ (Nat.le_of_ble_eq_true rfl) ⟨Nat.le_refl _, Nat.le_refl _⟩ (fun v G' hq => ?_)
      obtain ⟨rfl, hG9⟩ := hq
      replace hG9 := hG9.symm
      subst hG9
      refine x_as rfl rfl rfl ?_
      refine x_if_neB 31 33 C dX6_isSentFromAfar_28 rfl (by decide) (fun h28 => ?_) (fun h28 => ?_)
      · skip
        refine x_joinv 64 (fun vJ => vJ = bI (!rHas f 8 && (decide (¬ nv = 0) && decide (me = 0)))) ?_ (fun hJ64 => ?_)
        · intro vJ hJ
          subst hJ
          exact x_iret C dX6_isSentFromAfar_64 (by first | rfl | exact nar_b _ | exact nar_01 (by first | assumption | omega)) ⟨vi (by unfold rkSfa; rw [if_neg (by omega), if_neg (by rw [h28]; decide)]), rfl⟩
        · skip
          refine x_aload_n 34 C dX6_isSentFromAfar_33 rfl rfl ?_
          refine x_getO 37 500 C fr_X6_40 dX6_isSentFromAfar_34 rfl rfl rfl rfl (by assumption) (by assumption) ?_
          refine x_bipush 39 C dX6_isSentFromAfar_37 rfl (by decide) ?_
          refine x_callV (As := [_]) 42 6 0 0 C vw_X6_96 iw_X3_has sw_X3_has (c_X3_has (by assumption) (by assumption) ⟨by omega, by omega⟩) dX6_isSentFromAfar_39 rfl rfl rfl rfl rfl rfl (by assumption) ⟨Nat.le_of_ble_eq_true rfl, Nat.le_of_ble_eq_true rfl⟩ (Nat.le_of_ble_eq_true rfl) ⟨Nat.le_refl _, Nat.le_refl _⟩ (fun v G' hq => ?_)
          obtain ⟨rfl, hG9⟩ := hq
          replace hG9 := hG9.symm
          subst hG9
          refine x_as rfl rfl rfl ?_
          refine x_if_neB 45 63 C dX6_isSentFromAfar_42 rfl (by decide) (fun h42 => ?_) (fun h42 => ?_)
          · skip
            refine x_iconst 64 C dX6_isSentFromAfar_63 rfl ?_
            exact hJ64 _ (by first | (simp [bI, h42]; done) | (simp [bI, h42]; omega) | (simp [bI, h42] at *; omega))
          · skip
            refine x_aload_n 46 C dX6_isSentFromAfar_45 rfl rfl ?_
            refine x_getIv 49 704 C fr_X6_108 dX6_isSentFromAfar_46 rfl rfl rfl rfl (by assumption) (by first | assumption | rfl) ?_
            refine x_if_eq 52 63 C dX6_isSentFromAfar_49 rfl (by decide) (by first | assumption | exact ⟨by omega, by omega⟩ | exact hw.1 _ _ | omega) (fun h49 => ?_) (fun h49 => ?_)
            · skip
              refine x_iconst 64 C dX6_isSentFromAfar_63 rfl ?_
              exact hJ64 _ (by first | (simp [bI, h42, h49]; done) | (simp [bI, h42, h49]; omega) | (simp [bI, h42, h49] at *; omega))
            · skip
              refine x_aload_n 53 C dX6_isSentFromAfar_52 rfl rfl ?_
              refine x_getIv 56 701 C fr_X6_118 dX6_isSentFromAfar_53 rfl rfl rfl rfl (by assumption) (by first | assumption | rfl) ?_
              refine x_if_ne 59 63 C dX6_isSentFromAfar_56 rfl (by decide) (by first | assumption | exact ⟨by omega, by omega⟩ | exact hw.1 _ _ | omega) (fun h56 => ?_) (fun h56 => ?_)
              · skip
                refine x_iconst 64 C dX6_isSentFromAfar_63 rfl ?_
                exact hJ64 _ (by first | (simp [bI, h42, h49, h56]; done) | (simp [bI, h42, h49, h56]; omega) | (simp [bI, h42, h49, h56] at *; omega))
              · skip
                refine x_iconst 60 C dX6_isSentFromAfar_59 rfl ?_
                refine x_goto 64 C dX6_isSentFromAfar_60 (by decide) ?_
                exact hJ64 _ (by first | (simp [bI, h42, h49, h56]; done) | (simp [bI, h42, h49, h56]; omega) | (simp [bI, h42, h49, h56] at *; omega))
      · skip
        refine x_iconst 32 C dX6_isSentFromAfar_31 rfl ?_
        exact x_iret C dX6_isSentFromAfar_32 rfl ⟨vi (by unfold rkSfa; rw [if_neg (by omega), if_pos h28]; rfl), rfl⟩
    · skip
      refine x_aload_n 12 C dX6_isSentFromAfar_11 rfl rfl ?_
      refine x_getIv 15 503 C fr_X6_111 dX6_isSentFromAfar_12 rfl rfl rfl rfl (by assumption) (by first | assumption | rfl) ?_
      refine x_iconst 16 C dX6_isSentFromAfar_15 rfl ?_
      refine x_icmp_ne 19 21 C dX6_isSentFromAfar_16 rfl (by decide) (by first | assumption | exact ⟨by omega, by omega⟩ | exact hw.1 _ _ | omega) (by first | assumption | exact ⟨by omega, by omega⟩ | exact hw.1 _ _ | omega) (fun h16 => ?_) (fun h16 => ?_)
      · skip
        refine x_aload_n 22 C dX6_isSentFromAfar_21 rfl rfl ?_
        refine x_getO 25 500 C fr_X6_40 dX6_isSentFromAfar_22 rfl rfl rfl rfl (by assumption) (by assumption) ?_
        refine x_callV (As := []) 28 6 0 0 C vw_X6_114 iw_X3_isLaxOrStrict sw_X3_isLaxOrStrict (c_X3_isLaxOrStrict (by assumption) (by assumption)) dX6_isSentFromAfar_25 rfl rfl rfl rfl rfl rfl (by assumption) ⟨Nat.le_of_ble_eq_true rfl, Nat.le_of_ble_eq_true rfl⟩ (Nat.le_of_ble_eq_true rfl) ⟨Nat.le_refl _, Nat.le_refl _⟩ (fun v G' hq => ?_)
        obtain ⟨rfl, hG9⟩ := hq
        replace hG9 := hG9.symm
        subst hG9
        refine x_as rfl rfl rfl ?_
        refine x_if_neB 31 33 C dX6_isSentFromAfar_28 rfl (by decide) (fun h28 => ?_) (fun h28 => ?_)
        · skip
          refine x_joinv 64 (fun vJ => vJ = bI (!rHas f 8 && (decide (¬ nv = 0) && decide (me = 0)))) ?_ (fun hJ64 => ?_)
          · intro vJ hJ
            subst hJ
            exact x_iret C dX6_isSentFromAfar_64 (by first | rfl | exact nar_b _ | exact nar_01 (by first | assumption | omega)) ⟨vi (by unfold rkSfa; rw [if_neg (by omega), if_neg (by rw [h28]; decide)]), rfl⟩
          · skip
            refine x_aload_n 34 C dX6_isSentFromAfar_33 rfl rfl ?_
            refine x_getO 37 500 C fr_X6_40 dX6_isSentFromAfar_34 rfl rfl rfl rfl (by assumption) (by assumption) ?_
            refine x_bipush 39 C dX6_isSentFromAfar_37 rfl (by decide) ?_
            refine x_callV (As := [_]) 42 6 0 0 C vw_X6_96 iw_X3_has sw_X3_has (c_X3_has (by assumption) (by assumption) ⟨by omega, by omega⟩) dX6_isSentFromAfar_39 rfl rfl rfl rfl rfl rfl (by assumption) ⟨Nat.le_of_ble_eq_true rfl, Nat.le_of_ble_eq_true rfl⟩ (Nat.le_of_ble_eq_true rfl) ⟨Nat.le_refl _, Nat.le_refl _⟩ (fun v G' hq => ?_)
            obtain ⟨rfl, hG9⟩ := hq
            replace hG9 := hG9.symm
            subst hG9
            refine x_as rfl rfl rfl ?_
            refine x_if_neB 45 63 C dX6_isSentFromAfar_42 rfl (by decide) (fun h42 => ?_) (fun h42 => ?_)
            · skip
              refine x_iconst 64 C dX6_isSentFromAfar_63 rfl ?_
              exact hJ64 _ (by first | (simp [bI, h42]; done) | (simp [bI, h42]; omega) | (simp [bI, h42] at *; omega))
            · skip
              refine x_aload_n 46 C dX6_isSentFromAfar_45 rfl rfl ?_
              refine x_getIv 49 704 C fr_X6_108 dX6_isSentFromAfar_46 rfl rfl rfl rfl (by assumption) (by first | assumption | rfl) ?_
              refine x_if_eq 52 63 C dX6_isSentFromAfar_49 rfl (by decide) (by first | assumption | exact ⟨by omega, by omega⟩ | exact hw.1 _ _ | omega) (fun h49 => ?_) (fun h49 => ?_)
              · skip
                refine x_iconst 64 C dX6_isSentFromAfar_63 rfl ?_
                exact hJ64 _ (by first | (simp [bI, h42, h49]; done) | (simp [bI, h42, h49]; omega) | (simp [bI, h42, h49] at *; omega))
              · skip
                refine x_aload_n 53 C dX6_isSentFromAfar_52 rfl rfl ?_
                refine x_getIv 56 701 C fr_X6_118 dX6_isSentFromAfar_53 rfl rfl rfl rfl (by assumption) (by first | assumption | rfl) ?_
                refine x_if_ne 59 63 C dX6_isSentFromAfar_56 rfl (by decide) (by first | assumption | exact ⟨by omega, by omega⟩ | exact hw.1 _ _ | omega) (fun h56 => ?_) (fun h56 => ?_)
                · skip
                  refine x_iconst 64 C dX6_isSentFromAfar_63 rfl ?_
                  exact hJ64 _ (by first | (simp [bI, h42, h49, h56]; done) | (simp [bI, h42, h49, h56]; omega) | (simp [bI, h42, h49, h56] at *; omega))
                · skip
                  refine x_iconst 60 C dX6_isSentFromAfar_59 rfl ?_
                  refine x_goto 64 C dX6_isSentFromAfar_60 (by decide) ?_
                  exact hJ64 _ (by first | (simp [bI, h42, h49, h56]; done) | (simp [bI, h42, h49, h56]; omega) | (simp [bI, h42, h49, h56] at *; omega))
        · skip
          refine x_iconst 32 C dX6_isSentFromAfar_31 rfl ?_
          exact x_iret C dX6_isSentFromAfar_32 rfl ⟨vi (by unfold rkSfa; rw [if_neg (by omega), if_pos h28]; rfl), rfl⟩
      · skip
        refine x_iconst 20 C dX6_isSentFromAfar_19 rfl ?_
        exact x_iret C dX6_isSentFromAfar_20 rfl ⟨vi (by unfold rkSfa; rw [if_pos ⟨h1, h8, h16⟩]; rfl), rfl⟩
