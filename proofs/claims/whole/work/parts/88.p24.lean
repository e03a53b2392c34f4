/-! rows laid by program (wip/tools/genp.py) -/
/-- a hop that was taken, a request that was made -/
def rkHp (G : GT) (B : Nat → Nat) (R : RT) (q : Int) (x : Nat) : Prop := ∃ a me ta af nv pt : Int, rkHv G B x a me ta af nv pt ∧ (0 ≤ a ∧ a < R 7 0) ∧ R 31 q.toNat = 1000 * a + 100 * me + (if ta = 0 then 0 else 10) + gI G 706 x ∧ (0 ≤ R 32 q.toNat ∧ R 32 q.toNat ≤ 10) ∧ ∃ ar, rkSn G x ar R q
def rkSt (G : GT) (B : Nat → Nat) (R : RT) (r : Int) (x : Nat) : Prop := gK G x = 13 ∧ ∃ ch, gP G 1304 x = some ch ∧ gK G ch = 20 ∧ ((gL G ch).length : Int) = R 30 r.toNat ∧ ∀ j, 0 ≤ j → j < R 30 r.toNat → rkHp G B R (6 * r + j) (rkAt G ch j)
def rkPast (G : GT) (B : Nat → Nat) (R : RT) : Prop := ((gL G (B 4)).length : Int) = R 28 0 ∧ ∀ r, 0 ≤ r → r < R 28 0 → rkSt G B R r (rkAt G (B 4) r)
theorem rIsReq_t {R : RT} {a : Int} : rIsRequest R a = true ↔ (0 ≤ a ∧ a ≤ R 28 0 - 1) := by simp [rIsRequest, rLies]
theorem rIsHop_t {R : RT} {a b : Int} : rIsHop R a b = true ↔ ((0 ≤ a ∧ a ≤ R 28 0 - 1) ∧ (0 ≤ b ∧ b ≤ R 30 a.toNat - 1)) := by simp [rIsHop, rIsRequest, rLies]
set_option maxHeartbeats 2000000 in
set_option maxRecDepth 100000 in
theorem c_X11_requestAt {E : EV} {l : Launch} {G : GT} {B : Nat → Nat} {R : RT} (hW : rkW G B R) (hS : rkPast G B R) {i : Int} (hx : InR i) (hl : l.stackTraces = false) : MX E l yX11_requestAt cX11_requestAt 2 (some (.object "HopRules$Request")) 6 84 1 6 [.ref (B 0), .int (i32 i)] (G) (fun v G' => v = some (.ref (rkAt G (B 4) i)) ∧ G' = G ∧ (0 ≤ i ∧ i < R 28 0)) (fun nx G' => nx = "java/lang/IndexOutOfBoundsException" ∧ G' = G ∧ ¬ (0 ≤ i ∧ i < R 28 0)) := by
  refine mx_of (own := RX11) (L := [some (.ref (B 0)), some (.int (i32 i))]) (by decide +kernel) rfl (Nat.le_of_ble_eq_true rfl) (List.forall_mem_cons.mpr ⟨rfl, (List.forall_mem_cons.mpr ⟨rfl, (fun _ h => absurd h List.not_mem_nil)⟩)⟩) rfl ?_
  intro p e s m args below meth c C hin htab
  refine x_wf (fun hw => ?_)
  obtain ⟨hB, hH, hA, hP, hI⟩ := id hW
  obtain ⟨⟨b0, b6, b7⟩, ⟨bk1, bk2, bk3, bk4, bk5, bk8, bk9⟩, ⟨bp0, bp1, bp2, bp3, bp4, bp5, bp6, bp7, bp8⟩, -⟩ := id hB
  obtain ⟨hl1, hh1⟩ := id hH
  obtain ⟨hl2, hh2⟩ := id hA
  obtain ⟨hl3, hh3⟩ := id hP
  obtain ⟨iH, iA, iAd, iHl, iP, iS, hRw, iU⟩ := id hI
  have iH1 := iH.1
  have iA1 := iA.1
  have iA2 := iA.2
  have iP1 := iP.1
  obtain ⟨hl4, hh4⟩ := id hS
  refine x_iload_n 1 C dX11_requestAt_0 rfl rfl ?_
  refine x_if_lt 4 15 C dX11_requestAt_1 rfl (by decide) (by first | exact hRw _ _ | assumption | exact ⟨by omega, by omega⟩ | exact hw.1 _ _ | omega) (fun h1 => ?_) (fun h1 => ?_)
  · skip
    exact x_throwW (text := "no such request") C hl htab tqI (by decide +kernel) dX11_requestAt_15 dX11_requestAt_18 dX11_requestAt_19 dX11_requestAt_22 dX11_requestAt_25 ⟨Nat.le_of_ble_eq_true rfl, Nat.le_of_ble_eq_true rfl⟩ ⟨by omega, by omega⟩ ⟨rfl, rfl, by omega⟩
  · skip
    refine x_iload_n 5 C dX11_requestAt_4 rfl rfl ?_
    refine x_aload_n 6 C dX11_requestAt_5 rfl rfl ?_
    refine x_getO 9 1403 C fr_X11_22 dX11_requestAt_6 rfl rfl rfl rfl (by assumption) (by assumption) ?_
    refine x_callL (As := []) (ci := 2) 12 1 6 C vw_X11_66 iw_Jx4a65c_size_8abf5 sw_Jx4a65c_size_8abf5 (c_sizev (by assumption) hl4) dX11_requestAt_9 rfl rfl rfl rfl rfl (Or.inr (Or.inr ⟨rfl, (by assumption)⟩)) ⟨Nat.le_of_ble_eq_true rfl, Nat.le_of_ble_eq_true rfl⟩ (Nat.le_of_ble_eq_true rfl) ⟨Nat.le_refl _, Nat.le_refl _⟩ (fun v G' hq => ?_)
    obtain ⟨rfl, hG9⟩ := hq
    replace hG9 := hG9.symm
    subst hG9
    refine x_as rfl rfl rfl ?_
    refine x_icmp_lt 15 26 C dX11_requestAt_12 rfl (by decide) (by first | exact hRw _ _ | assumption | exact ⟨by omega, by omega⟩ | exact hw.1 _ _ | omega) (by first | exact hRw _ _ | assumption | exact ⟨by omega, by omega⟩ | exact hw.1 _ _ | omega) (fun h12 => ?_) (fun h12 => ?_)
    · skip
      refine x_aload_n 27 C dX11_requestAt_26 rfl rfl ?_
      refine x_getO 30 1403 C fr_X11_22 dX11_requestAt_27 rfl rfl rfl rfl (by assumption) (by assumption) ?_
      refine x_iload_n 31 C dX11_requestAt_30 rfl rfl ?_
      refine x_callL (As := [_]) (ci := 2) 34 1 6 C vw_X11_151 iw_Jx4a65c_get_915e3 sw_Jx4a65c_get_915e3 (c_get (x := rkAt G (B 4) i) (by assumption) (by omega) (rkAt_get hl4 (by omega) (by omega))) dX11_requestAt_31 rfl rfl rfl rfl rfl (Or.inr (Or.inr ⟨rfl, (by assumption)⟩)) ⟨Nat.le_of_ble_eq_true rfl, Nat.le_of_ble_eq_true rfl⟩ (Nat.le_of_ble_eq_true rfl) ⟨Nat.le_refl _, Nat.le_refl _⟩ (fun v G' hq => ?_)
      obtain ⟨rfl, hG9⟩ := hq
      replace hG9 := hG9.symm
      subst hG9
      refine x_as rfl rfl rfl ?_
      refine x_cast 37 C ck_X11_240 rfl rfl ((hh4 i (by omega) (by omega)).1) dX11_requestAt_34 rfl ?_
      exact x_through (x_aret (r := some _) C dX11_requestAt_37 rfl ⟨rfl, rfl, by omega, by omega⟩)
    · skip
      exact x_throwW (text := "no such request") C hl htab tqI (by decide +kernel) dX11_requestAt_15 dX11_requestAt_18 dX11_requestAt_19 dX11_requestAt_22 dX11_requestAt_25 ⟨Nat.le_of_ble_eq_true rfl, Nat.le_of_ble_eq_true rfl⟩ ⟨by omega, by omega⟩ ⟨rfl, rfl, by omega⟩
set_option maxHeartbeats 2000000 in
set_option maxRecDepth 100000 in
theorem c_X11_hopAt {E : EV} {l : Launch} {G : GT} {B : Nat → Nat} {R : RT} (hW : rkW G B R) (hS : rkPast G B R) {i j : Int} (hx : InR i) (hj : InR j) (hl : l.stackTraces = false) : MX E l yX11_hopAt cX11_hopAt 4 (some (.object "HopRules$Hop")) 7 105 2 12 [.ref (B 0), .int (i32 i), .int (i32 j)] (G) (fun v G' => ∃ ch, gP G 1304 (rkAt G (B 4) i) = some ch ∧ gK G ch = 20 ∧ v = some (.ref (rkAt G ch j)) ∧ G' = G ∧ ((0 ≤ i ∧ i < R 28 0) ∧ 0 ≤ j ∧ j < R 30 i.toNat) ∧ rkHp G B R (6 * i + j) (rkAt G ch j)) (fun nx G' => nx = "java/lang/IndexOutOfBoundsException" ∧ G' = G ∧ ¬ ((0 ≤ i ∧ i < R 28 0) ∧ 0 ≤ j ∧ j < R 30 i.toNat)) := by
  refine mx_of (own := RX11) (L := [some (.ref (B 0)), some (.int (i32 i)), some (.int (i32 j)), none]) (by decide +kernel) rfl (Nat.le_of_ble_eq_true rfl) (List.forall_mem_cons.mpr ⟨rfl, (List.forall_mem_cons.mpr ⟨rfl, (List.forall_mem_cons.mpr ⟨rfl, (fun _ h => absurd h List.not_mem_nil)⟩)⟩)⟩) rfl ?_
  intro p e s m args below meth c C hin htab
  refine x_wf (fun hw => ?_)
  obtain ⟨hB, hH, hA, hP, hI⟩ := id hW
  obtain ⟨⟨b0, b6, b7⟩, ⟨bk1, bk2, bk3, bk4, bk5, bk8, bk9⟩, ⟨bp0, bp1, bp2, bp3, bp4, bp5, bp6, bp7, bp8⟩, -⟩ := id hB
  obtain ⟨hl1, hh1⟩ := id hH
  obtain ⟨hl2, hh2⟩ := id hA
  obtain ⟨hl3, hh3⟩ := id hP
  obtain ⟨iH, iA, iAd, iHl, iP, iS, hRw, iU⟩ := id hI
  have iH1 := iH.1
  have iA1 := iA.1
  have iA2 := iA.2
  have iP1 := iP.1
  obtain ⟨hl4, hh4⟩ := id hS
  refine x_aload_n 1 C dX11_hopAt_0 rfl rfl ?_
  refine x_iload_n 2 C dX11_hopAt_1 rfl rfl ?_
  refine x_callVX (As := [_]) 5 14 1 6 C htab vw_X11_390 iw_X11_requestAt sw_X11_requestAt (c_X11_requestAt hW hS (by first | assumption | exact hRw _ _ | exact ⟨by omega, by omega⟩) hl) (aw_i 1385 (by decide +kernel) rfl) dX11_hopAt_2 rfl rfl rfl rfl rfl rfl (by assumption) ⟨Nat.le_of_ble_eq_true rfl, Nat.le_of_ble_eq_true rfl⟩ (Nat.le_of_ble_eq_true rfl) ⟨by omega, by omega⟩ (fun nx G' hx => (by obtain ⟨q1, hG8, hn8⟩ := hx; exact ⟨q1, hG8, fun z => hn8 z.1⟩)) (fun v G' hq => ?_)
  obtain ⟨rfl, hG9, hq1, hq2⟩ := hq
  replace hG9 := hG9.symm
  subst hG9
  refine x_as rfl rfl rfl ?_
  obtain ⟨xk, ch, xc, ck, hlc, hhc⟩ := hh4 i hq1 hq2
  refine x_astore_n 6 C dX11_hopAt_5 rfl rfl rfl ?_
  refine x_iload_n 7 C dX11_hopAt_6 rfl rfl ?_
  refine x_if_lt 10 21 C dX11_hopAt_7 rfl (by decide) (by first | exact hRw _ _ | assumption | exact ⟨by omega, by omega⟩ | exact hw.1 _ _ | omega) (fun h7 => ?_) (fun h7 => ?_)
  · skip
    exact x_throwW (text := "no such hop") C hl htab tqI (by decide +kernel) dX11_hopAt_21 dX11_hopAt_24 dX11_hopAt_25 dX11_hopAt_28 dX11_hopAt_31 ⟨Nat.le_of_ble_eq_true rfl, Nat.le_of_ble_eq_true rfl⟩ ⟨by omega, by omega⟩ ⟨rfl, rfl, by omega⟩
  · skip
    refine x_iload_n 11 C dX11_hopAt_10 rfl rfl ?_
    refine x_aload_n 12 C dX11_hopAt_11 rfl rfl ?_
    refine x_getO 15 1304 C fr_X11_287 dX11_hopAt_12 rfl rfl rfl rfl (by assumption) (by assumption) ?_
    refine x_callL (As := []) (ci := 2) 18 1 6 C vw_X11_66 iw_Jx4a65c_size_8abf5 sw_Jx4a65c_size_8abf5 (c_sizev ck hlc) dX11_hopAt_15 rfl rfl rfl rfl rfl (Or.inr (Or.inr ⟨rfl, ck⟩)) ⟨Nat.le_of_ble_eq_true rfl, Nat.le_of_ble_eq_true rfl⟩ (Nat.le_of_ble_eq_true rfl) ⟨Nat.le_refl _, Nat.le_refl _⟩ (fun v G' hq => ?_)
    obtain ⟨rfl, hG9⟩ := hq
    replace hG9 := hG9.symm
    subst hG9
    refine x_as rfl rfl rfl ?_
    refine x_icmp_lt 21 32 C dX11_hopAt_18 rfl (by decide) (by first | exact hRw _ _ | assumption | exact ⟨by omega, by omega⟩ | exact hw.1 _ _ | omega) (by first | exact hRw _ _ | assumption | exact ⟨by omega, by omega⟩ | exact hw.1 _ _ | omega) (fun h18 => ?_) (fun h18 => ?_)
    · skip
      refine x_aload_n 33 C dX11_hopAt_32 rfl rfl ?_
      refine x_getO 36 1304 C fr_X11_287 dX11_hopAt_33 rfl rfl rfl rfl (by assumption) (by assumption) ?_
      refine x_iload_n 37 C dX11_hopAt_36 rfl rfl ?_
      refine x_callL (As := [_]) (ci := 2) 40 1 6 C vw_X11_151 iw_Jx4a65c_get_915e3 sw_Jx4a65c_get_915e3 (c_get (x := rkAt G ch j) ck (by omega) (rkAt_get hlc (by omega) (by omega))) dX11_hopAt_37 rfl rfl rfl rfl rfl (Or.inr (Or.inr ⟨rfl, ck⟩)) ⟨Nat.le_of_ble_eq_true rfl, Nat.le_of_ble_eq_true rfl⟩ (Nat.le_of_ble_eq_true rfl) ⟨Nat.le_refl _, Nat.le_refl _⟩ (fun v G' hq => ?_)
      obtain ⟨rfl, hG9⟩ := hq
      replace hG9 := hG9.symm
      subst hG9
      refine x_as rfl rfl rfl ?_
      refine x_cast 43 C ck_X11_282 rfl rfl (by obtain ⟨q1, q2, q3, q4, q5, q6, q7, -⟩ := hhc j (by omega) (by omega); exact q7.1) dX11_hopAt_40 rfl ?_
      exact x_through (x_aret (r := some _) C dX11_hopAt_43 rfl ⟨ch, xc, ck, rfl, rfl, ⟨⟨hq1, hq2⟩, by omega, by omega⟩, hhc j (by omega) (by omega)⟩)
    · skip
      exact x_throwW (text := "no such hop") C hl htab tqI (by decide +kernel) dX11_hopAt_21 dX11_hopAt_24 dX11_hopAt_25 dX11_hopAt_28 dX11_hopAt_31 ⟨Nat.le_of_ble_eq_true rfl, Nat.le_of_ble_eq_true rfl⟩ ⟨by omega, by omega⟩ ⟨rfl, rfl, by omega⟩
set_option maxHeartbeats 2000000 in
set_option maxRecDepth 100000 in
theorem c_X11_hops {E : EV} {l : Launch} {G : GT} {B : Nat → Nat} {R : RT} (hW : rkW G B R) (hS : rkPast G B R) {i : Int} (hx : InR i) (hl : l.stackTraces = false) : MX E l yX11_hops cX11_hops 2 (some .int) 7 105 1 6 [.ref (B 0), .int (i32 i)] (G) (fun v G' => v = some (.int (i32 (rHops R i))) ∧ rReqC R i = 0 ∧ G' = G) (fun nx G' => G' = G ∧ rkX nx (rReqC R i)) := by
  refine mx_of (own := RX11) (L := [some (.ref (B 0)), some (.int (i32 i))]) (by decide +kernel) rfl (Nat.le_of_ble_eq_true rfl) (List.forall_mem_cons.mpr ⟨rfl, (List.forall_mem_cons.mpr ⟨rfl, (fun _ h => absurd h List.not_mem_nil)⟩)⟩) rfl ?_
  intro p e s m args below meth c C hin htab
  refine x_wf (fun hw => ?_)
  obtain ⟨hB, hH, hA, hP, hI⟩ := id hW
  obtain ⟨⟨b0, b6, b7⟩, ⟨bk1, bk2, bk3, bk4, bk5, bk8, bk9⟩, ⟨bp0, bp1, bp2, bp3, bp4, bp5, bp6, bp7, bp8⟩, -⟩ := id hB
  obtain ⟨hl1, hh1⟩ := id hH
  obtain ⟨hl2, hh2⟩ := id hA
  obtain ⟨hl3, hh3⟩ := id hP
  obtain ⟨iH, iA, iAd, iHl, iP, iS, hRw, iU⟩ := id hI
  have iH1 := iH.1
  have iA1 := iA.1
  have iA2 := iA.2
  have iP1 := iP.1
  obtain ⟨hl4, hh4⟩ := id hS
  refine x_aload_n 1 C dX11_hops_0 rfl rfl ?_
  refine x_iload_n 2 C dX11_hops_1 rfl rfl ?_
  refine x_callVX (As := [_]) 5 14 0 0 C htab vw_X11_390 iw_X11_requestAt sw_X11_requestAt (c_X11_requestAt hW hS (by first | assumption | exact hRw _ _ | exact ⟨by omega, by omega⟩) hl) (aw_i 1385 (by decide +kernel) rfl) dX11_hops_2 rfl rfl rfl rfl rfl rfl (by assumption) ⟨Nat.le_of_ble_eq_true rfl, Nat.le_of_ble_eq_true rfl⟩ (Nat.le_of_ble_eq_true rfl) ⟨by omega, by omega⟩ (fun nx G' hx => (by obtain ⟨q1, hG8, hn8⟩ := hx; exact ⟨hG8, q1 ▸ rkX1 (if_neg (fun z => hn8 (by have := rIsReq_t.mp z; omega)))⟩)) (fun v G' hq => ?_)
  obtain ⟨rfl, hG9, hq1, hq2⟩ := hq
  replace hG9 := hG9.symm
  subst hG9
  refine x_as rfl rfl rfl ?_
  obtain ⟨xk, ch, xc, ck, hlc, hhc⟩ := hh4 i hq1 hq2
  have hc0 : rReqC R i = 0 := if_pos (rIsReq_t.mpr (by omega))
  refine x_getO 8 1304 C fr_X11_287 dX11_hops_5 rfl rfl rfl rfl xk (by assumption) ?_
  refine x_callL (As := []) (ci := 2) 11 0 0 C vw_X11_66 iw_Jx4a65c_size_8abf5 sw_Jx4a65c_size_8abf5 (c_sizev ck hlc) dX11_hops_8 rfl rfl rfl rfl rfl (Or.inr (Or.inr ⟨rfl, ck⟩)) ⟨Nat.le_of_ble_eq_true rfl, Nat.le_of_ble_eq_true rfl⟩ (Nat.le_of_ble_eq_true rfl) ⟨Nat.le_refl _, Nat.le_refl _⟩ (fun v G' hq => ?_)
  obtain ⟨rfl, hG9⟩ := hq
  replace hG9 := hG9.symm
  subst hG9
  refine x_as rfl rfl rfl ?_
  exact x_through (x_iret C dX11_hops_11 rfl ⟨vi (by unfold rHops; rw [hc0]; rfl), hc0, rfl⟩)
set_option maxHeartbeats 2000000 in
set_option maxRecDepth 100000 in
theorem c_X11_hop {E : EV} {l : Launch} {G : GT} {B : Nat → Nat} {R : RT} (hW : rkW G B R) (hS : rkPast G B R) {i j : Int} (hx : InR i) (hj : InR j) (hl : l.stackTraces = false) : MX E l yX11_hop cX11_hop 4 (some .int) 8 128 2 12 [.ref (B 0), .int (i32 i), .int (i32 j)] (G) (fun v G' => v = some (.int (i32 (rHop R i j))) ∧ rHopC R i j = 0 ∧ G' = G) (fun nx G' => G' = G ∧ rkX nx (rHopC R i j)) := by
  refine mx_of (own := RX11) (L := [some (.ref (B 0)), some (.int (i32 i)), some (.int (i32 j)), none]) (by decide +kernel) rfl (Nat.le_of_ble_eq_true rfl) (List.forall_mem_cons.mpr ⟨rfl, (List.forall_mem_cons.mpr ⟨rfl, (List.forall_mem_cons.mpr ⟨rfl, (fun _ h => absurd h List.not_mem_nil)⟩)⟩)⟩) rfl ?_
  intro p e s m args below meth c C hin htab
  refine x_wf (fun hw => ?_)
  obtain ⟨hB, hH, hA, hP, hI⟩ := id hW
  obtain ⟨⟨b0, b6, b7⟩, ⟨bk1, bk2, bk3, bk4, bk5, bk8, bk9⟩, ⟨bp0, bp1, bp2, bp3, bp4, bp5, bp6, bp7, bp8⟩, -⟩ := id hB
  obtain ⟨hl1, hh1⟩ := id hH
  obtain ⟨hl2, hh2⟩ := id hA
  obtain ⟨hl3, hh3⟩ := id hP
  obtain ⟨iH, iA, iAd, iHl, iP, iS, hRw, iU⟩ := id hI
  have iH1 := iH.1
  have iA1 := iA.1
  have iA2 := iA.2
  have iP1 := iP.1
  obtain ⟨hl4, hh4⟩ := id hS
  refine x_aload_n 1 C dX11_hop_0 rfl rfl ?_
  refine x_iload_n 2 C dX11_hop_1 rfl rfl ?_
  refine x_iload_n 3 C dX11_hop_2 rfl rfl ?_
  refine x_callVX (As := [_, _]) 6 14 0 0 C htab vw_X11_394 iw_X11_hopAt sw_X11_hopAt (c_X11_hopAt hW hS hx hj hl) (aw_i 1397 (by decide +kernel) rfl) dX11_hop_3 rfl rfl rfl rfl rfl rfl (by assumption) ⟨Nat.le_of_ble_eq_true rfl, Nat.le_of_ble_eq_true rfl⟩ (Nat.le_of_ble_eq_true rfl) ⟨by omega, by omega⟩ (fun nx G' hx => (by obtain ⟨q1, hG8, hn8⟩ := hx; exact ⟨hG8, q1 ▸ rkX1 (if_neg (fun z => hn8 (by have := rIsHop_t.mp z; omega)))⟩)) (fun v G' hq => ?_)
  obtain ⟨ch, xc, ck, rfl, hG9, hr9, a, me, ta, af, nv, pt, hv, ha9, h31, h32, ar, hs9⟩ := hq
  replace hG9 := hG9.symm
  subst hG9
  obtain ⟨hk, hp0, hp1, hp2, hp3, hp4, hp5⟩ := id hv
  obtain ⟨⟨a1, a2, -⟩, -⟩ := hh2 a ha9.1 ha9.2
  have rta : InR ta := by (rw [← hp2]; exact hw.1 _ _)
  refine x_as rfl rfl rfl ?_
  have hc0 : rHopC R i j = 0 := if_pos (rIsHop_t.mpr (by omega))
  refine x_astore_n 7 C dX11_hop_6 rfl rfl rfl ?_
  refine x_sipush 10 C dX11_hop_7 rfl (by decide) ?_
  refine x_aload_n 11 C dX11_hop_10 rfl rfl ?_
  refine x_getO 14 700 C fr_X11_310 dX11_hop_11 rfl rfl rfl rfl (by assumption) (by assumption) ?_
  refine x_getIv 17 300 C fr_X11_170 dX11_hop_14 rfl rfl rfl rfl (by assumption) (by first | assumption | rfl) ?_
  refine x_imul 18 C dX11_hop_17 rfl ?_
  refine x_bipush 20 C dX11_hop_18 rfl (by decide) ?_
  refine x_aload_n 21 C dX11_hop_20 rfl rfl ?_
  refine x_getIv 24 701 C fr_X11_353 dX11_hop_21 rfl rfl rfl rfl (by assumption) (by first | assumption | rfl) ?_
  refine x_imul 25 C dX11_hop_24 rfl ?_
  refine x_iadd 26 C dX11_hop_25 rfl ?_
  refine x_joinv 39 (fun vJ => vJ = if ta = 0 then 0 else 10) ?_ (fun hJ39 => ?_)
  · intro vJ hJ
    subst hJ
    refine x_iadd 40 C dX11_hop_39 rfl ?_
    refine x_aload_n 41 C dX11_hop_40 rfl rfl ?_
    refine x_getIv 44 706 C fr_X11_398 dX11_hop_41 rfl rfl rfl rfl (by assumption) (by first | assumption | rfl) ?_
    refine x_iadd 45 C dX11_hop_44 rfl ?_
    exact x_through (x_iret C dX11_hop_45 rfl ⟨vi (by unfold rHop; rw [hc0, if_neg (show ¬ (0 : Int) < 0 by decide), h31]), hc0, rfl⟩)
  · skip
    refine x_aload_n 27 C dX11_hop_26 rfl rfl ?_
    refine x_getIv 30 702 C fr_X11_336 dX11_hop_27 rfl rfl rfl rfl (by assumption) (by first | assumption | rfl) ?_
    refine x_if_eq 33 38 C dX11_hop_30 rfl (by decide) (by first | exact hRw _ _ | assumption | exact ⟨by omega, by omega⟩ | exact hw.1 _ _ | omega) (fun h30 => ?_) (fun h30 => ?_)
    · skip
      refine x_iconst 39 C dX11_hop_38 rfl ?_
      exact hJ39 _ (by first | rw [if_pos (show ta = 0 by omega)] | rw [if_neg (show ¬ ta = 0 by omega)])
    · skip
      refine x_bipush 35 C dX11_hop_33 rfl (by decide) ?_
      refine x_goto 39 C dX11_hop_35 (by decide) ?_
      exact hJ39 _ (by first | rw [if_pos (show ta = 0 by omega)] | rw [if_neg (show ¬ ta = 0 by omega)])
set_option maxHeartbeats 2000000 in
set_option maxRecDepth 100000 in
theorem c_X11_sent {E : EV} {l : Launch} {G : GT} {B : Nat → Nat} {R : RT} (hW : rkW G B R) (hS : rkPast G B R) {i j q : Int} (hx : InR i) (hj : InR j) (hq0 : InR q) (hl : l.stackTraces = false) : MX E l yX11_sent cX11_sent 5 (some .int) 8 128 3 18 [.ref (B 0), .int (i32 i), .int (i32 j), .int (i32 q)] (G) (fun v G' => v = some (.int (i32 (rSent R i j q))) ∧ rSentC R i j q = 0 ∧ G' = G) (fun nx G' => G' = G ∧ rkX nx (rSentC R i j q)) := by
  refine mx_of (own := RX11) (L := [some (.ref (B 0)), some (.int (i32 i)), some (.int (i32 j)), some (.int (i32 q)), none]) (by decide +kernel) rfl (Nat.le_of_ble_eq_true rfl) (List.forall_mem_cons.mpr ⟨rfl, (List.forall_mem_cons.mpr ⟨rfl, (List.forall_mem_cons.mpr ⟨rfl, (List.forall_mem_cons.mpr ⟨rfl, (fun _ h => absurd h List.not_mem_nil)⟩)⟩)⟩)⟩) rfl ?_
  intro p e s m args below meth c C hin htab
  refine x_wf (fun hw => ?_)
  obtain ⟨hB, hH, hA, hP, hI⟩ := id hW
  obtain ⟨⟨b0, b6, b7⟩, ⟨bk1, bk2, bk3, bk4, bk5, bk8, bk9⟩, ⟨bp0, bp1, bp2, bp3, bp4, bp5, bp6, bp7, bp8⟩, -⟩ := id hB
  obtain ⟨hl1, hh1⟩ := id hH
  obtain ⟨hl2, hh2⟩ := id hA
  obtain ⟨hl3, hh3⟩ := id hP
  obtain ⟨iH, iA, iAd, iHl, iP, iS, hRw, iU⟩ := id hI
  have iH1 := iH.1
  have iA1 := iA.1
  have iA2 := iA.2
  have iP1 := iP.1
  obtain ⟨hl4, hh4⟩ := id hS
  refine x_aload_n 1 C dX11_sent_0 rfl rfl ?_
  refine x_iload_n 2 C dX11_sent_1 rfl rfl ?_
  refine x_iload_n 3 C dX11_sent_2 rfl rfl ?_
  refine x_callVX (As := [_, _]) 6 14 1 6 C htab vw_X11_394 iw_X11_hopAt sw_X11_hopAt (c_X11_hopAt hW hS hx hj hl) (aw_i 1397 (by decide +kernel) rfl) dX11_sent_3 rfl rfl rfl rfl rfl rfl (by assumption) ⟨Nat.le_of_ble_eq_true rfl, Nat.le_of_ble_eq_true rfl⟩ (Nat.le_of_ble_eq_true rfl) ⟨by omega, by omega⟩ (fun nx G' hx => (by obtain ⟨q1, hG8, hn8⟩ := hx; exact ⟨hG8, q1 ▸ rkX1 (if_neg (fun z => hn8 (by have := rIsHop_t.mp ((Bool.and_eq_true _ _).mp z).1; omega)))⟩)) (fun v G' hq => ?_)
  obtain ⟨ch, xc, ck, rfl, hG9, hr9, a, me, ta, af, nv, pt, hv, ha9, h31, h32, ar, hs9⟩ := hq
  replace hG9 := hG9.symm
  subst hG9
  obtain ⟨hk, hp0, hp1, hp2, hp3, hp4, hp5⟩ := id hv
  obtain ⟨⟨a1, a2, -⟩, -⟩ := hh2 a ha9.1 ha9.2
  have rta : InR ta := by (rw [← hp2]; exact hw.1 _ _)
  refine x_as rfl rfl rfl ?_
  obtain ⟨n7, ak, n8, n9⟩ := id hs9
  have hih : rIsHop R i j = true := rIsHop_t.mpr (by omega)
  refine x_astore 8 C dX11_sent_6 rfl rfl rfl ?_
  refine x_iload_n 9 C dX11_sent_8 rfl rfl ?_
  refine x_if_ge 12 23 C dX11_sent_9 rfl (by decide) (by first | exact hRw _ _ | assumption | exact ⟨by omega, by omega⟩ | exact hw.1 _ _ | omega) (fun h9 => ?_) (fun h9 => ?_)
  · skip
    refine x_iload_n 24 C dX11_sent_23 rfl rfl ?_
    refine x_aload 26 C dX11_sent_24 rfl rfl ?_
    refine x_getIv 29 708 C fr_X11_403 dX11_sent_26 rfl rfl rfl rfl (by assumption) (by first | assumption | rfl) ?_
    refine x_icmp_ge 32 52 C dX11_sent_29 rfl (by decide) (by first | exact hRw _ _ | assumption | exact ⟨by omega, by omega⟩ | exact hw.1 _ _ | omega) (by first | exact hRw _ _ | assumption | exact ⟨by omega, by omega⟩ | exact hw.1 _ _ | omega) (fun h29 => ?_) (fun h29 => ?_)
    · skip
      refine x_iconst 53 C dX11_sent_52 rfl ?_
      exact x_through (x_iret C dX11_sent_53 rfl (by have hc0 : rSentC R i j q = 0 := if_pos (by rw [hih, decide_eq_true (show 0 ≤ q by omega)]; rfl); first | (have hqq : q < R 32 (6 * i + j).toNat := (by omega); exact ⟨vi (by unfold rSent; rw [hc0, if_neg (by decide), if_pos hqq, ← n9 q (by omega) hqq]), hc0, rfl⟩) | (have hqq : ¬ q < R 32 (6 * i + j).toNat := (by omega); exact ⟨vi (by unfold rSent; rw [hc0, if_neg (by decide), if_neg hqq]), hc0, rfl⟩)))
    · skip
      refine x_iload_n 33 C dX11_sent_32 rfl rfl ?_
      refine x_aload 35 C dX11_sent_33 rfl rfl ?_
      refine x_getO 38 707 C fr_X11_406 dX11_sent_35 rfl rfl rfl rfl (by assumption) (by assumption) ?_
      refine x_alen10 39 C (by assumption) dX11_sent_38 rfl ?_
      refine x_icmp_ge 42 52 C dX11_sent_39 rfl (by decide) (by first | exact hRw _ _ | assumption | exact ⟨by omega, by omega⟩ | exact hw.1 _ _ | omega) (by first | exact hRw _ _ | assumption | exact ⟨by omega, by omega⟩ | exact hw.1 _ _ | omega) (fun h39 => ?_) (fun h39 => ?_)
      · skip
        exact absurd h39 (by omega)
      · skip
        refine x_aload 44 C dX11_sent_42 rfl rfl ?_
        refine x_getO 47 707 C fr_X11_406 dX11_sent_44 rfl rfl rfl rfl (by assumption) (by assumption) ?_
        refine x_iload_n 48 C dX11_sent_47 rfl rfl ?_
        refine x_ald10 49 C ak (by omega) dX11_sent_48 rfl ?_
        refine x_goto 53 C dX11_sent_49 (by decide) ?_
        exact x_through (x_iret C dX11_sent_53 rfl (by have hc0 : rSentC R i j q = 0 := if_pos (by rw [hih, decide_eq_true (show 0 ≤ q by omega)]; rfl); first | (have hqq : q < R 32 (6 * i + j).toNat := (by omega); exact ⟨vi (by unfold rSent; rw [hc0, if_neg (by decide), if_pos hqq, ← n9 q (by omega) hqq]), hc0, rfl⟩) | (have hqq : ¬ q < R 32 (6 * i + j).toNat := (by omega); exact ⟨vi (by unfold rSent; rw [hc0, if_neg (by decide), if_neg hqq]), hc0, rfl⟩)))
  · skip
    exact x_throwW (text := "no such place") C hl htab tqI (by decide +kernel) dX11_sent_12 dX11_sent_15 dX11_sent_16 dX11_sent_19 dX11_sent_22 ⟨Nat.le_of_ble_eq_true rfl, Nat.le_of_ble_eq_true rfl⟩ ⟨by omega, by omega⟩ ⟨rfl, rkX1 (if_neg (fun z => by (have := of_decide_eq_true ((Bool.and_eq_true _ _).mp z).2; omega)))⟩
set_option maxHeartbeats 2000000 in
set_option maxRecDepth 100000 in
theorem c_X11_cookies {E : EV} {l : Launch} {G : GT} {B : Nat → Nat} {R : RT} (hB : rkB G B) (hC : rkC G B R) : MT E l yX11_cookies cX11_cookies 1 (some .int) 1 20 0 0 [.ref (B 0)] (G) (pD (some (.int (i32 (R 34 0)))) (G)) := by
  refine mt_of (own := RX11) (L := [some (.ref (B 0))]) (by decide +kernel) rfl (Nat.le_of_ble_eq_true rfl) (List.forall_mem_cons.mpr ⟨rfl, (fun _ h => absurd h List.not_mem_nil)⟩) rfl ?_
  intro p e s m args below meth c C hin
  refine x_wf (fun hw => ?_)
  obtain ⟨⟨b0, b6, b7⟩, ⟨bk1, bk2, bk3, bk4, bk5, bk8, bk9⟩, ⟨bp0, bp1, bp2, bp3, bp4, bp5, bp6, bp7, bp8⟩, -⟩ := id hB
  have hl8 := hC.1
  refine x_aload_n 1 C dX11_cookies_0 rfl rfl ?_
  refine x_getO 4 1405 C fr_X11_31 dX11_cookies_1 rfl rfl rfl rfl (by assumption) (by assumption) ?_
  refine x_getO 7 900 C fr_X11_410 dX11_cookies_4 rfl rfl rfl rfl (by assumption) (by assumption) ?_
  refine x_callL (As := []) (ci := 2) 10 0 0 C vw_X11_66 iw_Jx4a65c_size_8abf5 sw_Jx4a65c_size_8abf5 (c_sizev (by assumption) hl8) dX11_cookies_7 rfl rfl rfl rfl rfl (Or.inr (Or.inr ⟨rfl, (by assumption)⟩)) ⟨Nat.le_of_ble_eq_true rfl, Nat.le_of_ble_eq_true rfl⟩ (Nat.le_of_ble_eq_true rfl) ⟨Nat.le_refl _, Nat.le_refl _⟩ (fun v G' hq => ?_)
  obtain ⟨rfl, hG9⟩ := hq
  replace hG9 := hG9.symm
  subst hG9
  refine x_as rfl rfl rfl ?_
  exact x_iret C dX11_cookies_10 rfl ⟨vi (rfl), rfl⟩
set_option maxHeartbeats 2000000 in
set_option maxRecDepth 100000 in
theorem c_X11_cookie {E : EV} {l : Launch} {G : GT} {B : Nat → Nat} {R : RT} (hW : rkW G B R) (hC : rkC G B R) (hRC : RC R) {i : Int} (hx : InR i) (hl : l.stackTraces = false) : MX E l yX11_cookie cX11_cookie 4 (some .int) 6 84 1 6 [.ref (B 0), .int (i32 i)] (G) (fun v G' => v = some (.int (i32 (rCk R i))) ∧ rCkC R i = 0 ∧ G' = G) (fun nx G' => G' = G ∧ rkX nx (rCkC R i)) := by
  refine mx_of (own := RX11) (L := [some (.ref (B 0)), some (.int (i32 i)), none, none]) (by decide +kernel) rfl (Nat.le_of_ble_eq_true rfl) (List.forall_mem_cons.mpr ⟨rfl, (List.forall_mem_cons.mpr ⟨rfl, (fun _ h => absurd h List.not_mem_nil)⟩)⟩) rfl ?_
  intro p e s m args below meth c C hin htab
  refine x_wf (fun hw => ?_)
  obtain ⟨hB, hH, hA, hP, hI⟩ := id hW
  obtain ⟨⟨b0, b6, b7⟩, ⟨bk1, bk2, bk3, bk4, bk5, bk8, bk9⟩, ⟨bp0, bp1, bp2, bp3, bp4, bp5, bp6, bp7, bp8⟩, -⟩ := id hB
  obtain ⟨hl1, hh1⟩ := id hH
  obtain ⟨hl2, hh2⟩ := id hA
  obtain ⟨hl3, hh3⟩ := id hP
  obtain ⟨iH, iA, iAd, iHl, iP, iS, hRw, iU⟩ := id hI
  have iH1 := iH.1
  have iA1 := iA.1
  have iA2 := iA.2
  have iP1 := iP.1
  obtain ⟨hl8, hh8, hij8, hor8, hlu8, hub8⟩ := id hC
  have iC1 := hRC.1
  refine x_iload_n 1 C dX11_cookie_0 rfl rfl ?_
  refine x_if_lt 4 18 C dX11_cookie_1 rfl (by decide) (by first | exact hRw _ _ | assumption | exact ⟨by omega, by omega⟩ | exact hw.1 _ _ | omega) (fun h1 => ?_) (fun h1 => ?_)
  · skip
    exact x_throwW (text := "no such cookie") C hl htab tqI (by decide +kernel) dX11_cookie_18 dX11_cookie_21 dX11_cookie_22 dX11_cookie_25 dX11_cookie_28 ⟨Nat.le_of_ble_eq_true rfl, Nat.le_of_ble_eq_true rfl⟩ ⟨by omega, by omega⟩ ⟨rfl, rkX1 (if_neg (fun z => by (have := rLs_t.mp z; omega)))⟩
  · skip
    refine x_iload_n 5 C dX11_cookie_4 rfl rfl ?_
    refine x_aload_n 6 C dX11_cookie_5 rfl rfl ?_
    refine x_getO 9 1405 C fr_X11_31 dX11_cookie_6 rfl rfl rfl rfl (by assumption) (by assumption) ?_
    refine x_getO 12 900 C fr_X11_410 dX11_cookie_9 rfl rfl rfl rfl (by assumption) (by assumption) ?_
    refine x_callL (As := []) (ci := 2) 15 1 6 C vw_X11_66 iw_Jx4a65c_size_8abf5 sw_Jx4a65c_size_8abf5 (c_sizev (by assumption) hl8) dX11_cookie_12 rfl rfl rfl rfl rfl (Or.inr (Or.inr ⟨rfl, (by assumption)⟩)) ⟨Nat.le_of_ble_eq_true rfl, Nat.le_of_ble_eq_true rfl⟩ (Nat.le_of_ble_eq_true rfl) ⟨Nat.le_refl _, Nat.le_refl _⟩ (fun v G' hq => ?_)
    obtain ⟨rfl, hG9⟩ := hq
    replace hG9 := hG9.symm
    subst hG9
    refine x_as rfl rfl rfl ?_
    refine x_icmp_lt 18 29 C dX11_cookie_15 rfl (by decide) (by first | exact hRw _ _ | assumption | exact ⟨by omega, by omega⟩ | exact hw.1 _ _ | omega) (by first | exact hRw _ _ | assumption | exact ⟨by omega, by omega⟩ | exact hw.1 _ _ | omega) (fun h15 => ?_) (fun h15 => ?_)
    · skip
      refine x_aload_n 30 C dX11_cookie_29 rfl rfl ?_
      refine x_getO 33 1405 C fr_X11_31 dX11_cookie_30 rfl rfl rfl rfl (by assumption) (by assumption) ?_
      refine x_getO 36 900 C fr_X11_410 dX11_cookie_33 rfl rfl rfl rfl (by assumption) (by assumption) ?_
      refine x_iload_n 37 C dX11_cookie_36 rfl rfl ?_
      refine x_callL (As := [_]) (ci := 2) 40 1 6 C vw_X11_151 iw_Jx4a65c_get_915e3 sw_Jx4a65c_get_915e3 (c_get (x := rkAt G (B 8) i) (by assumption) (by omega) (rkAt_get hl8 (by omega) (by omega))) dX11_cookie_37 rfl rfl rfl rfl rfl (Or.inr (Or.inr ⟨rfl, (by assumption)⟩)) ⟨Nat.le_of_ble_eq_true rfl, Nat.le_of_ble_eq_true rfl⟩ (Nat.le_of_ble_eq_true rfl) ⟨Nat.le_refl _, Nat.le_refl _⟩ (fun v G' hq => ?_)
      obtain ⟨rfl, hG9⟩ := hq
      replace hG9 := hG9.symm
      subst hG9
      refine x_as rfl rfl rfl ?_
      refine x_cast 43 C ck_X11_415 rfl rfl ((hh8 i (by omega) (by omega)).elim (fun t h => h.elim (fun g h => h.1.1))) dX11_cookie_40 rfl ?_
      obtain ⟨t9, go9, x9, ag9, pr9, al9⟩ := hh8 i (by omega) (by omega)
      obtain ⟨u1, u2, u3, u4⟩ := hRC.2 i.toNat (by omega)
      obtain ⟨ck, ⟨cl, cp, lk, l0, l1, l3, l4, l5⟩, cq, c2, c3, c4⟩ := id x9
      have hpn := rkPm_no pr9
      have rp9 : InR (rkPm (R 41 i.toNat)) := by (rw [← c3]; exact hw.1 _ _)
      obtain ⟨g1, g2, -⟩ := hh1 (R 37 i.toNat) u1.1 u1.2
      refine x_astore_n 44 C dX11_cookie_43 rfl rfl rfl ?_
      refine x_joinv 59 (fun vJ => vJ = if R 41 i.toNat = -1 then 0 else 50000000) ?_ (fun hJ59 => ?_)
      · intro vJ hJ
        subst hJ
        refine x_istore_n 60 C dX11_cookie_59 rfl rfl rfl ?_
        refine x_iload_n 61 C dX11_cookie_60 rfl rfl ?_
        refine x_ldcw (v := 100000) 64 C (aw_i 1427 (by decide +kernel) rfl) dX11_cookie_61 rfl ?_
        refine x_aload_n 65 C dX11_cookie_64 rfl rfl ?_
        refine x_getO 68 501 C fr_X11_420 dX11_cookie_65 rfl rfl rfl rfl (by assumption) (by assumption) ?_
        refine x_getIv 71 800 C fr_X11_57 dX11_cookie_68 rfl rfl rfl rfl (by assumption) (by first | assumption | rfl) ?_
        refine x_imul 72 C dX11_cookie_71 rfl ?_
        refine x_iadd 73 C dX11_cookie_72 rfl ?_
        refine x_aload_n 74 C dX11_cookie_73 rfl rfl ?_
        refine x_getO 77 500 C fr_X11_421 dX11_cookie_74 rfl rfl rfl rfl (by assumption) (by assumption) ?_
        refine x_callV (As := []) 80 6 1 6 C vw_X11_422 iw_X3_nameAndValue sw_X3_nameAndValue (c_X3_nameAndValue (by assumption) (by assumption) (by assumption)) dX11_cookie_77 rfl rfl rfl rfl rfl rfl (by assumption) ⟨Nat.le_of_ble_eq_true rfl, Nat.le_of_ble_eq_true rfl⟩ (Nat.le_of_ble_eq_true rfl) ⟨Nat.le_refl _, Nat.le_refl _⟩ (fun v G' hq => ?_)
        obtain ⟨rfl, hG9⟩ := hq
        replace hG9 := hG9.symm
        subst hG9
        refine x_as rfl rfl rfl ?_
        refine x_iadd 81 C dX11_cookie_80 rfl ?_
        exact x_through (x_iret C dX11_cookie_81 rfl (by have hc0 : rCkC R i = 0 := if_pos (rLs_t.mpr (by omega)); exact ⟨vi (by unfold rCk; rw [hc0, if_neg (show ¬ (0 : Int) < 0 by decide)]; omega), hc0, rfl⟩))
      · skip
        refine x_aload_n 45 C dX11_cookie_44 rfl rfl ?_
        refine x_getIv 48 503 C fr_X11_417 dX11_cookie_45 rfl rfl rfl rfl (by assumption) (by first | assumption | rfl) ?_
        refine x_iconst 49 C dX11_cookie_48 rfl ?_
        refine x_icmp_ne 52 56 C dX11_cookie_49 rfl (by decide) (by first | exact hRw _ _ | assumption | exact ⟨by omega, by omega⟩ | exact hw.1 _ _ | omega) (by first | exact hRw _ _ | assumption | exact ⟨by omega, by omega⟩ | exact hw.1 _ _ | omega) (fun h49 => ?_) (fun h49 => ?_)
        · skip
          refine x_ldcw (v := 50000000) 59 C (aw_i 1426 (by decide +kernel) rfl) dX11_cookie_56 rfl ?_
          exact hJ59 _ (by first | rw [if_pos (hpn.mp (by omega))] | rw [if_neg (fun z => by (have := hpn.mpr z; omega))])
        · skip
          refine x_iconst 53 C dX11_cookie_52 rfl ?_
          refine x_goto 59 C dX11_cookie_53 (by decide) ?_
          exact hJ59 _ (by first | rw [if_pos (hpn.mp (by omega))] | rw [if_neg (fun z => by (have := hpn.mpr z; omega))])
    · skip
      exact x_throwW (text := "no such cookie") C hl htab tqI (by decide +kernel) dX11_cookie_18 dX11_cookie_21 dX11_cookie_22 dX11_cookie_25 dX11_cookie_28 ⟨Nat.le_of_ble_eq_true rfl, Nat.le_of_ble_eq_true rfl⟩ ⟨by omega, by omega⟩ ⟨rfl, rkX1 (if_neg (fun z => by (have := rLs_t.mp z; omega)))⟩
set_option maxHeartbeats 2000000 in
set_option maxRecDepth 100000 in
theorem c_X11_count {E : EV} {l : Launch} {G : GT} {B : Nat → Nat} {R : RT} (hW : rkW G B R) (hQ : rkQ G B R) {i : Int} (hx : InR i) (h49 : gI G 1409 (B 0) = R 53 0) (hl : l.stackTraces = false) : MX E l yX11_count cX11_count 2 (some .int) 6 84 1 6 [.ref (B 0), .int (i32 i)] (G) (fun v G' => v = some (.int (i32 (rCnt R i))) ∧ rCntC i = 0 ∧ G' = G) (fun nx G' => G' = G ∧ nx = "java/lang/IllegalArgumentException" ∧ rCntC i = 1) := by
  refine mx_of (own := RX11) (L := [some (.ref (B 0)), some (.int (i32 i))]) (by decide +kernel) rfl (Nat.le_of_ble_eq_true rfl) (List.forall_mem_cons.mpr ⟨rfl, (List.forall_mem_cons.mpr ⟨rfl, (fun _ h => absurd h List.not_mem_nil)⟩)⟩) rfl ?_
  intro p e s m args below meth c C hin htab
  refine x_wf (fun hw => ?_)
  obtain ⟨⟨σ, τ, hQl⟩, hPl, hc45⟩ := hQ
  have hl9 := hQl.1
  obtain ⟨hB, hH, hA, hP, hI⟩ := id hW
  obtain ⟨⟨b0, b6, b7⟩, ⟨bk1, bk2, bk3, bk4, bk5, bk8, bk9⟩, ⟨bp0, bp1, bp2, bp3, bp4, bp5, bp6, bp7, bp8⟩, -⟩ := id hB
  obtain ⟨hl1, hh1⟩ := id hH
  obtain ⟨hl2, hh2⟩ := id hA
  obtain ⟨hl3, hh3⟩ := id hP
  obtain ⟨iH, iA, iAd, iHl, iP, iS, hRw, iU⟩ := id hI
  have iH1 := iH.1
  have iA1 := iA.1
  have iA2 := iA.2
  have iP1 := iP.1
  refine x_iload_n 1 C dX11_count_0 rfl rfl ?_
  rcases (show i = 0 ∨ i = 1 ∨ i = 2 ∨ ¬ (0 ≤ i ∧ i ≤ 2) by omega) with k0 | k0 | k0 | k0
  · skip
    refine x_tableIn 28 0 C dX11_count_1 (by first | exact hRw _ _ | assumption | exact ⟨by omega, by omega⟩ | exact hw.1 _ _ | omega) k0 (by omega) rfl (by decide) ?_
    refine x_aload_n 29 C dX11_count_28 rfl rfl ?_
    refine x_getO 32 1406 C fr_X11_38 dX11_count_29 rfl rfl rfl rfl (by assumption) (by assumption) ?_
    refine x_getIv 35 1101 C fr_X11_425 dX11_count_32 rfl rfl rfl rfl (by assumption) (by first | assumption | rfl) ?_
    exact x_through (x_iret C dX11_count_35 rfl (by have hc0 : rCntC i = 0 := if_pos (rLs_t.mpr (by omega)); exact ⟨vi (by unfold rCnt; rw [hc0, if_neg (by decide), if_pos k0]), hc0, rfl⟩))
  · skip
    refine x_tableIn 36 1 C dX11_count_1 (by first | exact hRw _ _ | assumption | exact ⟨by omega, by omega⟩ | exact hw.1 _ _ | omega) k0 (by omega) rfl (by decide) ?_
    refine x_aload_n 37 C dX11_count_36 rfl rfl ?_
    refine x_getO 40 1406 C fr_X11_38 dX11_count_37 rfl rfl rfl rfl (by assumption) (by assumption) ?_
    refine x_getO 43 1100 C fr_X11_428 dX11_count_40 rfl rfl rfl rfl (by assumption) (by assumption) ?_
    refine x_callL (As := []) (ci := 2) 46 1 6 C vw_X11_66 iw_Jx4a65c_size_8abf5 sw_Jx4a65c_size_8abf5 (c_sizev (by assumption) hl9) dX11_count_43 rfl rfl rfl rfl rfl (Or.inr (Or.inr ⟨rfl, (by assumption)⟩)) ⟨Nat.le_of_ble_eq_true rfl, Nat.le_of_ble_eq_true rfl⟩ (Nat.le_of_ble_eq_true rfl) ⟨Nat.le_refl _, Nat.le_refl _⟩ (fun v G' hq => ?_)
    obtain ⟨rfl, hG9⟩ := hq
    replace hG9 := hG9.symm
    subst hG9
    refine x_as rfl rfl rfl ?_
    exact x_through (x_iret C dX11_count_46 rfl (by have hc0 : rCntC i = 0 := if_pos (rLs_t.mpr (by omega)); exact ⟨vi (by unfold rCnt; rw [hc0, if_neg (by decide), if_neg (by omega), if_pos k0]), hc0, rfl⟩))
  · skip
    refine x_tableIn 47 2 C dX11_count_1 (by first | exact hRw _ _ | assumption | exact ⟨by omega, by omega⟩ | exact hw.1 _ _ | omega) k0 (by omega) rfl (by decide) ?_
    refine x_aload_n 48 C dX11_count_47 rfl rfl ?_
    refine x_getIv 51 1409 C fr_X11_369 dX11_count_48 rfl rfl rfl rfl (by assumption) (by first | assumption | rfl) ?_
    exact x_through (x_iret C dX11_count_51 rfl (by have hc0 : rCntC i = 0 := if_pos (rLs_t.mpr (by omega)); exact ⟨vi (by unfold rCnt; rw [hc0, if_neg (by decide), if_neg (by omega), if_neg (by omega)]), hc0, rfl⟩))
  · skip
    refine x_tableOut 52 C dX11_count_1 (by first | exact hRw _ _ | assumption | exact ⟨by omega, by omega⟩ | exact hw.1 _ _ | omega) (by omega) (by decide) ?_
    exact x_throwW (text := "nothing that is counted") C hl htab tqA (by decide +kernel) dX11_count_52 dX11_count_55 dX11_count_56 dX11_count_59 dX11_count_62 ⟨Nat.le_of_ble_eq_true rfl, Nat.le_of_ble_eq_true rfl⟩ ⟨by omega, by omega⟩ ⟨rfl, rfl, if_neg (fun z => k0 (rLs_t.mp z))⟩
