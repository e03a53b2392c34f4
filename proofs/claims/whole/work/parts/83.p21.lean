/-! rows laid by program (wip/tools/genp.py) -/
set_option maxHeartbeats 2000000 in
set_option maxRecDepth 100000 in
theorem c_X8_placeOf {E : EV} {l : Launch} {G : GT} {B : Nat → Nat} {R : RT} (hW : rkW G B R) {σ τ : Int → Int} (hQl : rkQl G R (gL G (B 9)) σ τ (R 44 0)) (hPl : rkPl R) {a cr w : Int} (h0 : 0 ≤ a ∧ a < R 7 0) (hcr : cr = 0 ∨ cr = 1) (hw1 : -1 ≤ w ∧ w ≤ 31)  : MT E l yX8_placeOf cX8_placeOf 6 (some .int) 3 64 0 0 [.ref (B 7), .int (i32 (rkOrg R a)), .int (i32 cr), .int (i32 (rkPm w))] (G) (fun v G' => ∃ p1 : Int, v = some (.int (i32 p1)) ∧ G' = G ∧ ((p1 = -1 ∧ ∀ k : Nat, (k : Int) < R 44 0 → ¬ rLineIs R a cr w k = true) ∨ ((0 ≤ p1 ∧ p1 < R 44 0) ∧ rLineIs R a cr w (σ p1).toNat = true))) := by
  refine mt_of (own := RX8) (L := [some (.ref (B 7)), some (.int (i32 (rkOrg R a))), some (.int (i32 cr)), some (.int (i32 (rkPm w))), none, none]) (by decide +kernel) rfl (Nat.le_of_ble_eq_true rfl) (List.forall_mem_cons.mpr ⟨rfl, (List.forall_mem_cons.mpr ⟨rfl, (List.forall_mem_cons.mpr ⟨rfl, (List.forall_mem_cons.mpr ⟨rfl, (fun _ h => absurd h List.not_mem_nil)⟩)⟩)⟩)⟩) rfl ?_
  intro p e s m args below meth c C hin
  refine x_wf (fun hw => ?_)
  obtain ⟨hB, hH, hA, hP, hI⟩ := id hW
  obtain ⟨⟨b0, b6, b7⟩, ⟨bk1, bk2, bk3, bk4, bk5, bk8, bk9⟩, ⟨bp0, bp1, bp2, bp3, bp4, bp5, bp6, bp7, bp8⟩, -⟩ := id hB
  obtain ⟨hl1, hh1⟩ := id hH
  obtain ⟨hl2, hh2⟩ := id hA
  obtain ⟨hl3, hh3⟩ := id hP
  obtain ⟨iH, iA, iAd, iHl, iP, iS, hRw, iU⟩ := id hI
  have iH1 := iH.1
  have iA1 := iA.1
  have iA2 := iA.2
  have iP1 := iP.1
  obtain ⟨d1, d2, d3, d4, -⟩ := iAd a.toNat (by omega)
  have hgt := rGate_in iAd h0.1 h0.2
  have hl9 := hQl.1
  have h44 := hPl.1
  have oa := rkOrg_in iH iAd h0
  have eo : rkOrg R a = (2 * R 9 a.toNat + R 8 a.toNat) * 10000 + rGate R a := rfl
  have rcr : InR cr := ⟨by omega, by omega⟩
  have rpm : InR (rkPm w) := by (unfold rkPm; split; exact ⟨by omega, by omega⟩; exact ⟨by omega, by omega⟩)
  refine x_iconst 1 C dX8_placeOf_0 rfl ?_
  refine x_istore 3 C dX8_placeOf_1 rfl rfl rfl ?_
  refine x_loop (α := Int) (fun k => (6 - k).toNat) (fun k => 0 ≤ k ∧ k ≤ R 44 0 ∧ ∀ p : Int, 0 ≤ p → p < k → ¬ rLineIs R a cr w (σ p).toNat = true) (fun k => G) (fun k => [some (.ref (B 7)), some (.int (i32 (rkOrg R a))), some (.int (i32 cr)), some (.int (i32 (rkPm w))), some (.int (i32 k)), none]) (fun _ => []) 0 ⟨by omega, by omega, fun p z1 z2 => by omega⟩ rfl rfl rfl ?_
  intro aa hI ih
  obtain ⟨k, rfl⟩ := (⟨aa, rfl⟩ : ∃ z, z = aa)
  (try dsimp only at hI); (try dsimp only at ih); (try dsimp only)
  obtain ⟨i1, i2, i3⟩ := hI
  refine x_iload 5 C dX8_placeOf_3 rfl rfl ?_
  refine x_aload_n 6 C dX8_placeOf_5 rfl rfl ?_
  refine x_getO 9 1100 C fr_X8_12 dX8_placeOf_6 rfl rfl rfl rfl (by assumption) (by assumption) ?_
  refine x_callL (As := []) (ci := 2) 12 0 0 C vw_X8_28 iw_Jx4a65c_size_8abf5 sw_Jx4a65c_size_8abf5 (c_sizev (by assumption) hl9) dX8_placeOf_9 rfl rfl rfl rfl rfl (Or.inr (Or.inr ⟨rfl, (by assumption)⟩)) ⟨Nat.le_of_ble_eq_true rfl, Nat.le_of_ble_eq_true rfl⟩ (Nat.le_of_ble_eq_true rfl) ⟨Nat.le_refl _, Nat.le_refl _⟩ (fun v G' hq => ?_)
  obtain ⟨rfl, hG9⟩ := hq
  replace hG9 := hG9.symm
  subst hG9
  refine x_as rfl rfl rfl ?_
  refine x_icmp_ge 15 65 C dX8_placeOf_12 rfl (by decide) (by first | exact hRw _ _ | assumption | exact ⟨by omega, by omega⟩ | exact hw.1 _ _ | omega) (by first | exact hRw _ _ | assumption | exact ⟨by omega, by omega⟩ | exact hw.1 _ _ | omega) (fun h12 => ?_) (fun h12 => ?_)
  · skip
    refine x_iconst 66 C dX8_placeOf_65 rfl ?_
    exact x_iret C dX8_placeOf_66 rfl ⟨-1, rfl, rfl, Or.inl ⟨rfl, fun k2 hk2 => by (have hk3 := hQl.2.2.1 k2 (by omega) hk2; have hk4 := i3 (τ k2) hk3.1.1 (by omega); rw [hk3.2, Int.toNat_natCast] at hk4; exact hk4)⟩⟩
  · skip
    obtain ⟨⟨⟨k0, k1⟩, k2⟩, ⟨c1, c2, c3, c4, c5⟩⟩ := hQl.2.1 k i1 (by omega)
    obtain ⟨s1, s2, s3, s4, s5, s6, s7⟩ := hPl.2.1 (σ k).toNat (by omega)
    have ck : gK G (rkAt G (B 9) k) = 4 := c1
    have g400 : gI G 400 (rkAt G (B 9) k) = (2 * R 47 (σ k).toNat + R 46 (σ k).toNat) * 10000 + R 48 (σ k).toNat := c2
    have g401 : gI G 401 (rkAt G (B 9) k) = R 49 (σ k).toNat := c3
    have g402 : gI G 402 (rkAt G (B 9) k) = rkPm (R 50 (σ k).toNat) := c4
    have rp5 : InR (rkPm (R 50 (σ k).toNat)) := by (unfold rkPm; split; exact ⟨by omega, by omega⟩; exact ⟨by omega, by omega⟩)
    refine x_aload_n 16 C dX8_placeOf_15 rfl rfl ?_
    refine x_getO 19 1100 C fr_X8_12 dX8_placeOf_16 rfl rfl rfl rfl (by assumption) (by assumption) ?_
    refine x_iload 21 C dX8_placeOf_19 rfl rfl ?_
    refine x_callL (As := [_]) (ci := 2) 24 0 0 C vw_X8_51 iw_Jx4a65c_get_915e3 sw_Jx4a65c_get_915e3 (c_get (x := rkAt G (B 9) k) (by assumption) (by omega) (rkAt_get hl9 (by omega) (by omega))) dX8_placeOf_21 rfl rfl rfl rfl rfl (Or.inr (Or.inr ⟨rfl, (by assumption)⟩)) ⟨Nat.le_of_ble_eq_true rfl, Nat.le_of_ble_eq_true rfl⟩ (Nat.le_of_ble_eq_true rfl) ⟨Nat.le_refl _, Nat.le_refl _⟩ (fun v G' hq => ?_)
    obtain ⟨rfl, hG9⟩ := hq
    replace hG9 := hG9.symm
    subst hG9
    refine x_as rfl rfl rfl ?_
    refine x_cast 27 C ck_X8_35 rfl rfl (by assumption) dX8_placeOf_24 rfl ?_
    refine x_astore 29 C dX8_placeOf_27 rfl rfl rfl ?_
    refine x_aload 31 C dX8_placeOf_29 rfl rfl ?_
    refine x_getIv 34 400 C fr_X8_54 dX8_placeOf_31 rfl rfl rfl rfl (by assumption) (by first | assumption | rfl) ?_
    refine x_iload_n 35 C dX8_placeOf_34 rfl rfl ?_
    refine x_icmp_ne 38 59 C dX8_placeOf_35 rfl (by decide) (by first | exact hRw _ _ | assumption | exact ⟨by omega, by omega⟩ | exact hw.1 _ _ | omega) (by first | exact hRw _ _ | assumption | exact ⟨by omega, by omega⟩ | exact hw.1 _ _ | omega) (fun h35 => ?_) (fun h35 => ?_)
    · skip
      refine x_iinc 62 C dX8_placeOf_59 rfl rfl rfl rfl ?_
      refine x_goto 3 C dX8_placeOf_62 (by decide) ?_
      have hno : ¬ rLineIs R a cr w (σ k).toNat = true := fun z => by (have z2 := rkLineIs.mp z; have z3 : rkPm (R 50 (σ k).toNat) = rkPm w := (by rw [z2.2.2.2.2]); have z1 := z2.1; have z4 := z2.2.1; have z5 := z2.2.2.1; have z6 := z2.2.2.2.1; first | (apply h35; rw [eo, z1, z4, z5]; done) | (exact h44 z6) | (exact h53 z3))
      refine x_less ?_ (ih (k + 1) ⟨by omega, by omega, fun p p0 p1 => (if c : p = k then c ▸ hno else i3 p p0 (by omega))⟩ (by (try dsimp only); omega))
      exact ⟨rfl, rfl, rfl, rfl, rfl, trivial⟩
    · skip
      refine x_aload 40 C dX8_placeOf_38 rfl rfl ?_
      refine x_getIv 43 401 C fr_X8_56 dX8_placeOf_40 rfl rfl rfl rfl (by assumption) (by first | assumption | rfl) ?_
      refine x_iload_n 44 C dX8_placeOf_43 rfl rfl ?_
      refine x_icmp_ne 47 59 C dX8_placeOf_44 rfl (by decide) (by first | exact hRw _ _ | assumption | exact ⟨by omega, by omega⟩ | exact hw.1 _ _ | omega) (by first | exact hRw _ _ | assumption | exact ⟨by omega, by omega⟩ | exact hw.1 _ _ | omega) (fun h44 => ?_) (fun h44 => ?_)
      · skip
        refine x_iinc 62 C dX8_placeOf_59 rfl rfl rfl rfl ?_
        refine x_goto 3 C dX8_placeOf_62 (by decide) ?_
        have hno : ¬ rLineIs R a cr w (σ k).toNat = true := fun z => by (have z2 := rkLineIs.mp z; have z3 : rkPm (R 50 (σ k).toNat) = rkPm w := (by rw [z2.2.2.2.2]); have z1 := z2.1; have z4 := z2.2.1; have z5 := z2.2.2.1; have z6 := z2.2.2.2.1; first | (apply h35; rw [eo, z1, z4, z5]; done) | (exact h44 z6) | (exact h53 z3))
        refine x_less ?_ (ih (k + 1) ⟨by omega, by omega, fun p p0 p1 => (if c : p = k then c ▸ hno else i3 p p0 (by omega))⟩ (by (try dsimp only); omega))
        exact ⟨rfl, rfl, rfl, rfl, rfl, trivial⟩
      · skip
        refine x_aload 49 C dX8_placeOf_47 rfl rfl ?_
        refine x_getIv 52 402 C fr_X8_60 dX8_placeOf_49 rfl rfl rfl rfl (by assumption) (by first | assumption | rfl) ?_
        refine x_iload_n 53 C dX8_placeOf_52 rfl rfl ?_
        refine x_icmp_ne 56 59 C dX8_placeOf_53 rfl (by decide) (by first | exact hRw _ _ | assumption | exact ⟨by omega, by omega⟩ | exact hw.1 _ _ | omega) (by first | exact hRw _ _ | assumption | exact ⟨by omega, by omega⟩ | exact hw.1 _ _ | omega) (fun h53 => ?_) (fun h53 => ?_)
        · skip
          refine x_iinc 62 C dX8_placeOf_59 rfl rfl rfl rfl ?_
          refine x_goto 3 C dX8_placeOf_62 (by decide) ?_
          have hno : ¬ rLineIs R a cr w (σ k).toNat = true := fun z => by (have z2 := rkLineIs.mp z; have z3 : rkPm (R 50 (σ k).toNat) = rkPm w := (by rw [z2.2.2.2.2]); have z1 := z2.1; have z4 := z2.2.1; have z5 := z2.2.2.1; have z6 := z2.2.2.2.1; first | (apply h35; rw [eo, z1, z4, z5]; done) | (exact h44 z6) | (exact h53 z3))
          refine x_less ?_ (ih (k + 1) ⟨by omega, by omega, fun p p0 p1 => (if c : p = k then c ▸ hno else i3 p p0 (by omega))⟩ (by (try dsimp only); omega))
          exact ⟨rfl, rfl, rfl, rfl, rfl, trivial⟩
        · skip
          refine x_iload 58 C dX8_placeOf_56 rfl rfl ?_
          exact x_iret C dX8_placeOf_58 rfl ⟨k, rfl, rfl, Or.inr ⟨⟨i1, by omega⟩, rkLineIs.mpr ⟨by omega, by omega, by omega, by omega, (rkPm_inj s5 hw1).mp (by omega)⟩⟩⟩
set_option maxHeartbeats 2000000 in
set_option maxRecDepth 100000 in
theorem c_X8_use {E : EV} {l : Launch} {G : GT} {B : Nat → Nat} {R : RT} (hW : rkW G B R) (hQ : rkQ G B R) {a cr w : Int} (h0 : 0 ≤ a ∧ a < R 7 0) (hcr : cr = 0 ∨ cr = 1) (hw1 : -1 ≤ w ∧ w ≤ 31) (h45 : 0 ≤ R 45 0 ∧ R 45 0 ≤ 1000000) (hnw : 0 ≤ R 0 0 ∧ R 0 0 ≤ 1000000000)  : MT E l yX8_use cX8_use 7 none 7 191 2 24 [.ref (B 7), .ref (rkAt G (B 2) a), .int (i32 cr), .int (i32 (rkPm w)), .int (i32 (R 0 0))] (G) (fun v G' => v = none ∧ rkFr [403, 1101] [B 9] G G' ∧ rkQ G' B (rConR R a cr w)) := by
  refine mt_of (own := RX8) (L := [some (.ref (B 7)), some (.ref (rkAt G (B 2) a)), some (.int (i32 cr)), some (.int (i32 (rkPm w))), some (.int (i32 (R 0 0))), none, none]) (by decide +kernel) rfl (Nat.le_of_ble_eq_true rfl) (List.forall_mem_cons.mpr ⟨rfl, (List.forall_mem_cons.mpr ⟨rfl, (List.forall_mem_cons.mpr ⟨rfl, (List.forall_mem_cons.mpr ⟨rfl, (List.forall_mem_cons.mpr ⟨rfl, (fun _ h => absurd h List.not_mem_nil)⟩)⟩)⟩)⟩)⟩) rfl ?_
  intro p e s m args below meth c C hin
  refine x_wf (fun hw => ?_)
  obtain ⟨⟨σ, τ, hQl⟩, hPl, hc45⟩ := hQ
  obtain ⟨hB, hH, hA, hP, hI⟩ := id hW
  obtain ⟨⟨b0, b6, b7⟩, ⟨bk1, bk2, bk3, bk4, bk5, bk8, bk9⟩, ⟨bp0, bp1, bp2, bp3, bp4, bp5, bp6, bp7, bp8⟩, -⟩ := id hB
  obtain ⟨hl1, hh1⟩ := id hH
  obtain ⟨hl2, hh2⟩ := id hA
  obtain ⟨hl3, hh3⟩ := id hP
  obtain ⟨iH, iA, iAd, iHl, iP, iS, hRw, iU⟩ := id hI
  have iH1 := iH.1
  have iA1 := iA.1
  have iA2 := iA.2
  have iP1 := iP.1
  obtain ⟨d1, d2, d3, d4, -⟩ := iAd a.toNat (by omega)
  have hgt := rGate_in iAd h0.1 h0.2
  have hl9 := hQl.1
  have h44 := hPl.1
  have oa := rkOrg_in iH iAd h0
  have eo : rkOrg R a = (2 * R 9 a.toNat + R 8 a.toNat) * 10000 + rGate R a := rfl
  have rcr : InR cr := ⟨by omega, by omega⟩
  have rpm : InR (rkPm w) := by (unfold rkPm; split; exact ⟨by omega, by omega⟩; exact ⟨by omega, by omega⟩)
  obtain ⟨⟨a1, a2, a3, a4, a5, a6⟩, -⟩ := hh2 a h0.1 h0.2
  have hob : ∀ y ∈ gL G (B 9), gK G y = 4 := fun y hy => by (obtain ⟨i, i0, i1, rfl⟩ := rkAt_mem hl9 hy; exact (hQl.2.1 i i0 i1).2.1)
  have hne1 : B 1 ≠ B 9 ∧ B 2 ≠ B 9 ∧ B 3 ≠ B 9 := ⟨hB.2.2.2.2.2.2.2.2.1, hB.2.2.2.2.2.2.2.2.2.2.2.2.2.1, hB.2.2.2.2.2.2.2.2.2.2.2.2.2.2.2.2.2.1⟩
  refine x_aload_n 1 C dX8_use_0 rfl rfl ?_
  refine x_aload_n 2 C dX8_use_1 rfl rfl ?_
  refine x_callV (As := []) 5 3 2 24 C vw_X8_18 iw_X0_origin sw_X0_origin (c_X0_origin hW h0) dX8_use_2 rfl rfl rfl rfl rfl rfl (by assumption) ⟨Nat.le_of_ble_eq_true rfl, Nat.le_of_ble_eq_true rfl⟩ (Nat.le_of_ble_eq_true rfl) ⟨Nat.le_refl _, Nat.le_refl _⟩ (fun v G' hq => ?_)
  obtain ⟨rfl, hG9⟩ := hq
  replace hG9 := hG9.symm
  subst hG9
  refine x_as rfl rfl rfl ?_
  refine x_iload_n 6 C dX8_use_5 rfl rfl ?_
  refine x_iload_n 7 C dX8_use_6 rfl rfl ?_
  refine x_callV (As := [_, _, _]) 10 11 2 24 C vw_X8_24 iw_X8_placeOf sw_X8_placeOf (c_X8_placeOf hW hQl hPl h0 hcr hw1) dX8_use_7 rfl rfl rfl rfl rfl rfl b7 ⟨Nat.le_of_ble_eq_true rfl, Nat.le_of_ble_eq_true rfl⟩ (Nat.le_of_ble_eq_true rfl) ⟨Nat.le_refl _, Nat.le_refl _⟩ (fun v G' hq => ?_)
  obtain ⟨p1, rfl, hG9, hpp⟩ := hq
  replace hG9 := hG9.symm
  subst hG9
  refine x_as rfl rfl rfl ?_
  refine x_istore 12 C dX8_use_10 rfl rfl rfl ?_
  refine x_null 13 C dX8_use_12 rfl ?_
  refine x_astoreq 15 C dX8_use_13 rfl rfl rfl ?_
  refine x_joinK (kc1 := 1) (ks1 := 20) (α := GT × Nat) 89 (fun ⟨G8, x8⟩ => rkFr [403, 1101] [B 9] G G8 ∧ gK G8 x8 = 4 ∧ (∀ y ∈ gL G8 (B 9), gK G8 y = 4) ∧ ((gL G8 (B 9)).length : Int) ≤ 6 ∧ rkQn G8 B x8 (R 0 0) (rConR R a cr w)) (fun ⟨G8, x8⟩ => G8) (fun ⟨G8, x8⟩ => [some (.ref (B 7)), some (.ref (rkAt G (B 2) a)), some (.int (i32 cr)), some (.int (i32 (rkPm w))), some (.int (i32 (R 0 0))), some (.int (i32 p1)), some (.ref x8)]) (fun ⟨G8, x8⟩ => []) ?_ (fun hJ89 => ?_)
  · intro aa hJ
    obtain ⟨G8, x8⟩ := aa
    (try dsimp only at hJ); (try dsimp only)
    obtain ⟨hF8, hx8, ho8, hm8, hQn⟩ := hJ
    have b7k : gK G8 (B 7) = 11 := (hF8.1 (B 7) (by omega)).trans b7
    have n9p : gP G8 1100 (B 7) = some (B 9) := ((hF8.2.1 1100 (B 7) (by omega) (by decide)).2).trans bp8
    have n9k : gK G8 (B 9) = 20 := (hF8.1 (B 9) (by omega)).trans bk9
    refine x_aload_n 90 C dX8_use_89 rfl rfl ?_
    refine x_getO 93 1100 C fr_X8_12 dX8_use_90 rfl rfl rfl rfl (by assumption) (by assumption) ?_
    refine x_callL (As := []) (ci := 2) 96 1 20 C vw_X8_28 iw_Jx4a65c_size_8abf5 sw_Jx4a65c_size_8abf5 (c_sizev (by assumption) rfl) dX8_use_93 rfl rfl rfl rfl rfl (Or.inr (Or.inr ⟨rfl, (by assumption)⟩)) ⟨Nat.le_of_ble_eq_true rfl, Nat.le_of_ble_eq_true rfl⟩ (Nat.le_of_ble_eq_true rfl) ⟨Nat.le_refl _, Nat.le_refl _⟩ (fun v G' hq => ?_)
    obtain ⟨rfl, hG9⟩ := hq
    replace hG9 := hG9.symm
    subst hG9
    refine x_as rfl rfl rfl ?_
    refine x_join (α := List Nat) 110 (fun l9 => l9 = (if 6 ≤ ((gL G8 (B 9)).length : Int) then (gL G8 (B 9)).eraseIdx 0 else gL G8 (B 9))) (fun l9 => sL G8 (B 9) l9) (fun l9 => [some (.ref (B 7)), some (.ref (rkAt G (B 2) a)), some (.int (i32 cr)), some (.int (i32 (rkPm w))), some (.int (i32 (R 0 0))), some (.int (i32 p1)), some (.ref x8)]) (fun l9 => []) ?_ (fun hJ110 => ?_)
    · intro aa hJ
      obtain ⟨l9, rfl⟩ := (⟨aa, rfl⟩ : ∃ z, z = aa)
      (try dsimp only at hJ); (try dsimp only)
      have hm9 : ∀ y ∈ l9, gK G8 y = 4 := by (intro y hy; rw [hJ] at hy; split at hy; exact ho8 y (List.mem_of_mem_eraseIdx hy); exact ho8 y hy)
      have hn9 : (l9.length : Int) ≤ 6 := by (rw [hJ]; split; (rw [List.length_eraseIdx]; split <;> omega); exact hm8)
      have e9 : gL (sI (sL G8 (B 9) l9) 403 x8 (R 0 0)) (B 9) = l9 := sL_s
      refine x_aload 112 C dX8_use_110 rfl rfl ?_
      refine x_iload 114 C dX8_use_112 rfl rfl ?_
      refine x_putI 117 403 C fw_X8_37 (fun h => by cases h) dX8_use_114 rfl rfl rfl rfl rfl (by assumption) (by first | exact hRw _ _ | assumption | exact ⟨by omega, by omega⟩ | exact hw.1 _ _ | omega) ?_
      refine x_aload_n 118 C dX8_use_117 rfl rfl ?_
      refine x_getO 121 1100 C fr_X8_12 dX8_use_118 rfl rfl rfl rfl (by assumption) (by assumption) ?_
      refine x_aload 123 C dX8_use_121 rfl rfl ?_
      refine x_callL (As := [_]) (ci := 2) 126 0 0 C vw_X8_47 iw_Jx4a65c_add_9ea2d sw_Jx4a65c_add_9ea2d (c_add (ms := 20) (by assumption) (show 3 ≤ gK G8 x8 ∧ gK G8 x8 ≤ 14 by omega) (fun x hx => by (rw [e9] at hx; have := hm9 x hx; show 3 ≤ gK G8 x ∧ gK G8 x ≤ 14; omega)) (by rw [e9]; omega)) dX8_use_123 rfl rfl rfl rfl rfl (Or.inr (Or.inr ⟨rfl, (by assumption)⟩)) ⟨Nat.le_of_ble_eq_true rfl, Nat.le_of_ble_eq_true rfl⟩ (Nat.le_of_ble_eq_true rfl) ⟨by omega, by omega⟩ (fun v G' hq => ?_)
      obtain ⟨rfl, hG9⟩ := hq
      replace hG9 := hG9.symm
      subst hG9
      refine x_as rfl rfl rfl ?_
      refine x_pop 127 C dX8_use_126 rfl rfl ?_
      exact x_ret C dX8_use_127 ⟨rfl, fr_sL List.mem_cons_self (fr_sI (by decide) (by decide) (fr_sL List.mem_cons_self hF8)), hQn _ (fun _ => rfl) (fun y => ⟨(by show u2 (gI G8) 403 x8 (R 0 0) 400 y = _; rw [u2_k (by decide)]), (by show u2 (gI G8) 403 x8 (R 0 0) 401 y = _; rw [u2_k (by decide)]), (by show u2 (gI G8) 403 x8 (R 0 0) 402 y = _; rw [u2_k (by decide)])⟩) (show u2 (gI G8) 403 x8 (R 0 0) 403 x8 = _ from u2_s) (fun y hy => (show u2 (gI G8) 403 x8 (R 0 0) 403 y = _ from u2_a hy)) (by show u2 (gI G8) 403 x8 (R 0 0) 1101 (B 7) = _; rw [u2_k (by decide)]) (by rw [← hJ, sL_s, e9])⟩
    · skip
      refine x_bipush 98 C dX8_use_96 rfl (by decide) ?_
      refine x_icmp_lt 101 110 C dX8_use_98 rfl (by decide) (by first | exact hRw _ _ | assumption | exact ⟨by omega, by omega⟩ | exact hw.1 _ _ | omega) (by first | exact hRw _ _ | assumption | exact ⟨by omega, by omega⟩ | exact hw.1 _ _ | omega) (fun h98 => ?_) (fun h98 => ?_)
      · skip
        exact x_as (sL_self) rfl rfl (hJ110 _ (if_neg (by omega)).symm)
      · skip
        refine x_aload_n 102 C dX8_use_101 rfl rfl ?_
        refine x_getO 105 1100 C fr_X8_12 dX8_use_102 rfl rfl rfl rfl (by assumption) (by assumption) ?_
        refine x_iconst 106 C dX8_use_105 rfl ?_
        refine x_callL (As := [_]) (ci := 2) 109 1 20 C vw_X8_31 iw_Jx4a65c_remove_915e3 sw_Jx4a65c_remove_915e3 (c_remove (i := 0) (x := rkAt G8 (B 9) 0) (by assumption) (rkAt_get (i := 0) (n := ((gL G8 (B 9)).length : Int)) rfl (by omega) (by omega)) (fun x hx => by have := ho8 x hx; omega)) dX8_use_106 rfl rfl rfl rfl rfl (Or.inr (Or.inr ⟨rfl, (by assumption)⟩)) ⟨Nat.le_of_ble_eq_true rfl, Nat.le_of_ble_eq_true rfl⟩ (Nat.le_of_ble_eq_true rfl) ⟨Nat.le_refl _, Nat.le_refl _⟩ (fun v G' hq => ?_)
        obtain ⟨rfl, hG9⟩ := hq
        replace hG9 := hG9.symm
        subst hG9
        refine x_as rfl rfl rfl ?_
        refine x_pop 110 C dX8_use_109 rfl rfl ?_
        exact hJ110 _ (if_pos (by omega)).symm
  · skip
    refine x_iload 17 C dX8_use_15 rfl rfl ?_
    refine x_join (α := GT) 64 (fun G1 => rkFr [403, 1101] [B 9] G G1 ∧ (∀ y, gK G y = 4 → gK G1 y = 4 ∧ gI G1 400 y = gI G 400 y ∧ gI G1 401 y = gI G 401 y ∧ gI G1 402 y = gI G 402 y ∧ gI G1 403 y = gI G 403 y) ∧ gI G1 1101 (B 7) = R 45 0 ∧ (∀ y ∈ gL G1 (B 9), gK G y = 4) ∧ ((gL G1 (B 9)).length : Int) ≤ 6 ∧ (∀ (G8 : GT) (x : Nat), (gK G8 x = 4 ∧ gI G8 400 x = (2 * R 9 a.toNat + R 8 a.toNat) * 10000 + rGate R a ∧ gI G8 401 x = cr ∧ gI G8 402 x = rkPm w) → gK G x ≠ 4 → (∀ y, gK G y = 4 → gK G8 y = 4 ∧ gI G8 400 y = gI G 400 y ∧ gI G8 401 y = gI G 401 y ∧ gI G8 402 y = gI G 402 y ∧ gI G8 403 y = gI G 403 y) → gI G8 1101 (B 7) = R 45 0 + 1 → gL G8 (B 9) = gL G1 (B 9) → rkQn G8 B x (R 0 0) (rConR R a cr w))) (fun G1 => G1) (fun G1 => [some (.ref (B 7)), some (.ref (rkAt G (B 2) a)), some (.int (i32 cr)), some (.int (i32 (rkPm w))), some (.int (i32 (R 0 0))), some (.int (i32 p1)), none]) (fun G1 => []) ?_ (fun hJ64 => ?_)
    · intro aa hJ
      obtain ⟨G1, rfl⟩ := (⟨aa, rfl⟩ : ∃ z, z = aa)
      (try dsimp only at hJ); (try dsimp only)
      obtain ⟨hF1, hold1, hn45, ho1, hm1, hFN⟩ := hJ
      refine x_new (kc0 := 1) (ks0 := 20) 67 4 C nwd_X8_35 rfl rfl dX8_use_64 rfl ⟨by omega, by omega⟩ (fun q64 hq64 => ?_)
      have hq0 : gK G q64 = 0 := fr_q hF1 hq64
      obtain ⟨G4, hG4⟩ : ∃ G4 : GT, G4 = nO G1 q64 4 := ⟨_, rfl⟩
      refine x_as (G' := G4) hG4 rfl rfl ?_
      have hF4 : rkFr [403, 1101] [B 9] G G4 := by (rw [hG4]; exact fr_nO hq0 (by decide) hF1)
      have hW4 := rkW_fr hW hF4 (by decide) ⟨by simpa using hne1.1, by simpa using hne1.2.1, by simpa using hne1.2.2⟩ (fun x z => by (have z2 := List.mem_singleton.mp z; rw [z2]; omega))
      have el2 := hF4.2.2.1 (B 2) (by omega) (by simpa using hne1.2.1)
      have hq4 : gK G4 q64 = 4 := by (rw [hG4]; exact nO_q)
      have a14 := (hW4.2.2.1.2 a h0.1 h0.2).1.1
      refine x_as rfl (by rw [← rkAt_same el2 a]; try rfl) rfl ?_
      refine x_dup 68 C dX8_use_67 rfl rfl ?_
      refine x_aload_n 69 C dX8_use_68 rfl rfl ?_
      refine x_callV (As := []) 72 3 1 20 C vw_X8_18 iw_X0_origin sw_X0_origin (c_X0_origin hW4 h0) dX8_use_69 rfl rfl rfl rfl rfl rfl (by assumption) ⟨Nat.le_of_ble_eq_true rfl, Nat.le_of_ble_eq_true rfl⟩ (Nat.le_of_ble_eq_true rfl) ⟨Nat.le_refl _, Nat.le_refl _⟩ (fun v G' hq => ?_)
      obtain ⟨rfl, hG9⟩ := hq
      replace hG9 := hG9.symm
      subst hG9
      refine x_as rfl rfl rfl ?_
      refine x_iload_n 73 C dX8_use_72 rfl rfl ?_
      refine x_iload_n 74 C dX8_use_73 rfl rfl ?_
      refine x_callI (As := [_, _, _]) 77 1 20 C vw_X8_41 iw_X1_init rfl (c_X1_init hq4 ⟨by omega, by omega⟩ hcr rpm) dX8_use_74 rfl rfl rfl ⟨Nat.le_of_ble_eq_true rfl, Nat.le_of_ble_eq_true rfl⟩ (Nat.le_of_ble_eq_true rfl) ⟨Nat.le_refl _, Nat.le_refl _⟩ (fun v G' hq => ?_)
      obtain ⟨rfl, hG9⟩ := hq
      replace hG9 := hG9.symm
      subst hG9
      obtain ⟨G5, hG5⟩ : ∃ G5 : GT, G5 = sI (sI (sI G4 400 q64 (rkOrg R a)) 401 q64 cr) 402 q64 (rkPm w) := ⟨_, rfl⟩
      refine x_as (G' := G5) hG5 rfl rfl ?_
      have hF5 : rkFr [403, 1101] [B 9] G G5 := by (rw [hG5]; exact fr_sIq hq0 (fr_sIq hq0 (fr_sIq hq0 hF4)))
      have b75 : gK G5 (B 7) = 11 := (hF5.1 (B 7) (by omega)).trans b7
      have hn5 : gI G5 1101 (B 7) = R 45 0 := by (rw [hG5, rk_II, u2_k (by decide), rk_II, u2_k (by decide), rk_II, u2_k (by decide), hG4, nO_I (by decide)]; exact hn45)
      have el9 : gL G5 (B 9) = gL G1 (B 9) := by (rw [hG5, hG4]; rfl)
      have hx5 : gK G5 q64 = 4 ∧ gI G5 400 q64 = (2 * R 9 a.toNat + R 8 a.toNat) * 10000 + rGate R a ∧ gI G5 401 q64 = cr ∧ gI G5 402 q64 = rkPm w := by (rw [hG5]; refine ⟨hq4, ?_, ?_, ?_⟩; (rw [rk_II, u2_k (by decide), rk_II, u2_k (by decide), rk_II, u2_s]; rfl); (rw [rk_II, u2_k (by decide), rk_II, u2_s]); (rw [rk_II, u2_s]))
      have hold : ∀ y, gK G y = 4 → gK G5 y = 4 ∧ gI G5 400 y = gI G 400 y ∧ gI G5 401 y = gI G 401 y ∧ gI G5 402 y = gI G 402 y ∧ gI G5 403 y = gI G 403 y := by (intro y hy; have hyn : y ≠ q64 := fr_ne (by omega) hq0; obtain ⟨o1, o2, o3, o4, o5⟩ := hold1 y hy; have hy1 : gK G1 y ≠ 0 := (by omega); have e4 : ∀ f, f / 100 = 4 → gI G4 f y = gI G1 f y := (fun f hf => by rw [hG4]; exact if_neg (fun z => hyn z.1)); rw [hG5]; refine ⟨?_, ?_, ?_, ?_, ?_⟩; (show gK G4 y = 4; rw [hG4, nO_K hy1 hq64]; exact o1); (rw [rk_II, u2_a hyn, rk_II, u2_a hyn, rk_II, u2_a hyn, e4 400 rfl]; exact o2); (rw [rk_II, u2_a hyn, rk_II, u2_a hyn, rk_II, u2_a hyn, e4 401 rfl]; exact o3); (rw [rk_II, u2_a hyn, rk_II, u2_a hyn, rk_II, u2_a hyn, e4 402 rfl]; exact o4); (rw [rk_II, u2_a hyn, rk_II, u2_a hyn, rk_II, u2_a hyn, e4 403 rfl]; exact o5))
      have hx5s : gK (sI G5 1101 (B 7) (R 45 0 + 1)) q64 = 4 ∧ gI (sI G5 1101 (B 7) (R 45 0 + 1)) 400 q64 = (2 * R 9 a.toNat + R 8 a.toNat) * 10000 + rGate R a ∧ gI (sI G5 1101 (B 7) (R 45 0 + 1)) 401 q64 = cr ∧ gI (sI G5 1101 (B 7) (R 45 0 + 1)) 402 q64 = rkPm w := by (rw [rk_II, u2_k (by decide), u2_k (by decide), u2_k (by decide)]; exact hx5)
      have hold5 : ∀ y, gK G y = 4 → gK (sI G5 1101 (B 7) (R 45 0 + 1)) y = 4 ∧ gI (sI G5 1101 (B 7) (R 45 0 + 1)) 400 y = gI G 400 y ∧ gI (sI G5 1101 (B 7) (R 45 0 + 1)) 401 y = gI G 401 y ∧ gI (sI G5 1101 (B 7) (R 45 0 + 1)) 402 y = gI G 402 y ∧ gI (sI G5 1101 (B 7) (R 45 0 + 1)) 403 y = gI G 403 y := by (intro y hy; rw [rk_II, u2_k (by decide), u2_k (by decide), u2_k (by decide), u2_k (by decide)]; exact hold y hy)
      refine x_astore 79 C dX8_use_77 rfl rfl rfl ?_
      refine x_aload_n 80 C dX8_use_79 rfl rfl ?_
      refine x_dup 81 C dX8_use_80 rfl rfl ?_
      refine x_getIv 84 1101 C fr_X8_44 dX8_use_81 rfl rfl rfl rfl (by assumption) hn5 ?_
      refine x_iconst 85 C dX8_use_84 rfl ?_
      refine x_iadd 86 C dX8_use_85 rfl ?_
      refine x_putI 89 1101 C fw_X8_44 (fun h => by cases h) dX8_use_86 rfl rfl rfl rfl rfl (by assumption) ⟨by omega, by omega⟩ ?_
      exact x_as rfl (by rw [rkAt_same el2 a]; try rfl) rfl (x_weak (by omega) (by omega) (hJ89 (sI G5 1101 (B 7) (R 45 0 + 1), q64) ⟨fr_sI (by decide) (by decide) hF5, hx5.1, fun y hy => (by have z : y ∈ gL G1 (B 9) := (show gL G5 (B 9) = gL G1 (B 9) from el9) ▸ hy; exact (hold y (ho1 y z)).1), by (show ((gL G5 (B 9)).length : Int) ≤ 6; rw [el9]; exact hm1), hFN (sI G5 1101 (B 7) (R 45 0 + 1)) q64 hx5s (by rw [hq0]; decide) (fun y hy => hold5 y hy) (show u2 (gI G5) 1101 (B 7) (R 45 0 + 1) 1101 (B 7) = _ from u2_s) el9⟩))
    · skip
      refine x_if_lt 20 46 C dX8_use_17 rfl (by decide) (by first | exact hRw _ _ | assumption | exact ⟨by omega, by omega⟩ | exact hw.1 _ _ | omega) (fun h17 => ?_) (fun h17 => ?_)
      · skip
        have hno1 : ∀ k : Nat, (k : Int) < R 44 0 → ¬ rLineIs R a cr w k = true := hpp.elim (fun z => z.2) (fun z => by omega)
        refine x_aloadq 48 C dX8_use_46 rfl rfl ?_
        refine x_ifnull 51 64 C dX8_use_48 rfl (by decide) (fun _ => ?_) (fun _ z => by cases z)
        first | (refine x_less ?_ (hJ64 G ⟨fr_rfl, fun y hy => ⟨hy, rfl, rfl, rfl, rfl⟩, hc45, hob, by omega, fun G8 x e1 e2 e3 e4 e5 => rkQn_new hQl hPl (rConF_no hPl hno1) hno1 ⟨⟨by omega, by omega⟩, ⟨by omega, by omega⟩, ⟨by omega, by omega⟩, hcr, hw1, by omega⟩ e1 e2 e3 e4 e5⟩); exact ⟨rfl, rfl, rfl, rfl, rfl, rfl, trivial⟩)
      · skip
        obtain ⟨hp1, hli⟩ := hpp.elim (fun z => by omega) id
        obtain ⟨⟨⟨k0, k1⟩, k2⟩, ⟨c1, c2, c3, c4, c5⟩⟩ := hQl.2.1 p1 hp1.1 hp1.2
        have ck : gK G (rkAt G (B 9) p1) = 4 := c1
        have g403 : gI G 403 (rkAt G (B 9) p1) = R 51 (σ p1).toNat := c5
        obtain ⟨s1, s2, s3, s4, s5, s6, s7⟩ := hPl.2.1 (σ p1).toNat (by omega)
        refine x_iload 22 C dX8_use_20 rfl rfl ?_
        refine x_aload_n 23 C dX8_use_22 rfl rfl ?_
        refine x_getO 26 1100 C fr_X8_12 dX8_use_23 rfl rfl rfl rfl (by assumption) (by assumption) ?_
        refine x_callL (As := []) (ci := 2) 29 2 24 C vw_X8_28 iw_Jx4a65c_size_8abf5 sw_Jx4a65c_size_8abf5 (c_sizev (by assumption) hl9) dX8_use_26 rfl rfl rfl rfl rfl (Or.inr (Or.inr ⟨rfl, (by assumption)⟩)) ⟨Nat.le_of_ble_eq_true rfl, Nat.le_of_ble_eq_true rfl⟩ (Nat.le_of_ble_eq_true rfl) ⟨Nat.le_refl _, Nat.le_refl _⟩ (fun v G' hq => ?_)
        obtain ⟨rfl, hG9⟩ := hq
        replace hG9 := hG9.symm
        subst hG9
        refine x_as rfl rfl rfl ?_
        refine x_icmp_ge 32 46 C dX8_use_29 rfl (by decide) (by first | exact hRw _ _ | assumption | exact ⟨by omega, by omega⟩ | exact hw.1 _ _ | omega) (by first | exact hRw _ _ | assumption | exact ⟨by omega, by omega⟩ | exact hw.1 _ _ | omega) (fun h29 => ?_) (fun h29 => ?_)
        · skip
          exact absurd h29 (by omega)
        · skip
          refine x_aload_n 33 C dX8_use_32 rfl rfl ?_
          refine x_getO 36 1100 C fr_X8_12 dX8_use_33 rfl rfl rfl rfl (by assumption) (by assumption) ?_
          refine x_iload 38 C dX8_use_36 rfl rfl ?_
          refine x_as (st' := [.int (i32 ((p1.toNat : Nat) : Int)), .ref (B 9)]) rfl rfl (by rw [Int.toNat_of_nonneg (by omega)]; try rfl) ?_
          refine x_callL (As := [_]) (ci := 2) 41 2 24 C vw_X8_31 iw_Jx4a65c_remove_915e3 sw_Jx4a65c_remove_915e3 (c_remove (i := p1.toNat) (x := rkAt G (B 9) p1) (by assumption) (rkAt_get hl9 (by omega) (by omega)) (fun x hx => by have := hob x hx; omega)) dX8_use_38 rfl rfl rfl rfl rfl (Or.inr (Or.inr ⟨rfl, (by assumption)⟩)) ⟨Nat.le_of_ble_eq_true rfl, Nat.le_of_ble_eq_true rfl⟩ (Nat.le_of_ble_eq_true rfl) ⟨Nat.le_refl _, Nat.le_refl _⟩ (fun v G' hq => ?_)
          obtain ⟨rfl, hG9⟩ := hq
          replace hG9 := hG9.symm
          subst hG9
          refine x_as rfl rfl rfl ?_
          refine x_cast 44 C ck_X8_35 rfl rfl ck dX8_use_41 rfl ?_
          refine x_astore 46 C dX8_use_44 rfl rfl rfl ?_
          refine x_aload 48 C dX8_use_46 rfl rfl ?_
          refine x_ifnull (r := some _) 51 64 C dX8_use_48 rfl (by decide) (fun z => by cases z) (fun _ _ => ?_)
          refine x_iload 53 C dX8_use_51 rfl rfl ?_
          refine x_aload 55 C dX8_use_53 rfl rfl ?_
          refine x_getIv 58 403 C fr_X8_37 dX8_use_55 rfl rfl rfl rfl (by assumption) (by first | assumption | rfl) ?_
          refine x_isub 59 C dX8_use_58 rfl ?_
          refine x_bipush 61 C dX8_use_59 rfl (by decide) ?_
          refine x_icmp_le 64 89 C dX8_use_61 rfl (by decide) (by first | exact hRw _ _ | assumption | exact ⟨by omega, by omega⟩ | exact hw.1 _ _ | omega) (by first | exact hRw _ _ | assumption | exact ⟨by omega, by omega⟩ | exact hw.1 _ _ | omega) (fun h61 => ?_) (fun h61 => ?_)
          · skip
            exact x_weak (by omega) (by omega) (hJ89 (_, rkAt G (B 9) p1) ⟨fr_sL List.mem_cons_self fr_rfl, (hQl.2.1 p1 hp1.1 hp1.2).2.1, fun y hy => by (have z : y ∈ (gL G (B 9)).eraseIdx p1.toNat := (by have z0 := hy; (try dsimp only at z0); rwa [sL_s] at z0); exact hob y (List.mem_of_mem_eraseIdx z)), by (have z := sL_s (G := G) (a := B 9) (v := (gL G (B 9)).eraseIdx p1.toNat); (try dsimp only); rw [z, List.length_eraseIdx]; split <;> omega), rkQn_use hQl hPl hc45 hp1 hli (by omega) hnw.1⟩)
          · skip
            refine x_less ?_ (hJ64 (sL G (B 9) ((gL G (B 9)).eraseIdx p1.toNat)) ⟨fr_sL List.mem_cons_self fr_rfl, fun y hy => ⟨hy, rfl, rfl, rfl, rfl⟩, hc45, fun y hy => by (have z : y ∈ (gL G (B 9)).eraseIdx p1.toNat := (by have z0 := hy; (try dsimp only at z0); rwa [sL_s] at z0); exact hob y (List.mem_of_mem_eraseIdx z)), by (rw [sL_s, List.length_eraseIdx]; split <;> omega), fun G8 x e1 e2 e3 e4 e5 => rkQn_old hQl hPl hp1 hli (by omega) ⟨⟨by omega, by omega⟩, ⟨by omega, by omega⟩, ⟨by omega, by omega⟩, hcr, hw1, by omega⟩ e1 e2 e3 e4 (e5.trans sL_s)⟩); exact ⟨rfl, rfl, rfl, rfl, rfl, rfl, trivial⟩
