/-! rows laid by program (wip/tools/genp.py) -/
theorem rkPs_J : ∀ (n : Nat) (S : RT), rkJ S → (n : Int) ≤ S 34 0 → rkJ (rPassF n S) := by
  intro n
  induction n with
  | zero => intro S h _; exact h
  | succ n ih =>
    intro S h hn
    unfold rPassF
    split
    · exact ih _ (rkJ_drop h ⟨by omega, by omega⟩) (by rw [rDrops_34]; omega)
    · exact ih _ h (by omega)
theorem rkPs_o (f : Nat) (hf : f < 34 ∨ 43 < f) : ∀ (n : Nat) (S : RT), rPassF n S f = S f := by
  intro n
  induction n with
  | zero => intro S; rfl
  | succ n ih =>
    intro S
    unfold rPassF
    rw [ih]
    split
    · funext j
      exact rDrops_out (by omega) j
    · rfl
set_option maxHeartbeats 2000000 in
set_option maxRecDepth 100000 in
theorem c_X11_pass {E : EV} {l : Launch} {G : GT} {B : Nat → Nat} {R : RT} (hW : rkW G B R) (hC : rkC G B R) (hJ : rkJ R) (hF : rkF G B R) (h48 : gI G 1408 (B 0) = R 0 0) (hnr : 0 ≤ R 0 0 ∧ R 0 0 ≤ 900000000) (h53 : R 53 0 ≤ 240) {t : Int} (hx : InR t) (hl : l.stackTraces = false) : MX E l yX11_pass cX11_pass 2 (some .int) 6 128 1 6 [.ref (B 0), .int (i32 t)] (G) (fun v G' => v = some (.int (i32 (rPass R t))) ∧ rPassC t = 0 ∧ rkFr [1408] [B 8, B 5] G G' ∧ gI G' 1408 (B 0) = R 0 0 + t ∧ rkC G' B (rPassF (R 34 0).toNat (u2 R 0 0 (R 0 0 + t))) ∧ rkJ (rPassF (R 34 0).toNat (u2 R 0 0 (R 0 0 + t))) ∧ rkF G' B (rPassF (R 34 0).toNat (u2 R 0 0 (R 0 0 + t)))) (fun nx G' => G' = G ∧ nx = "java/lang/IllegalArgumentException" ∧ rPassC t = 1) := by
  refine mx_of (own := RX11) (L := [some (.ref (B 0)), some (.int (i32 t))]) (by decide +kernel) rfl (Nat.le_of_ble_eq_true rfl) (List.forall_mem_cons.mpr ⟨rfl, (List.forall_mem_cons.mpr ⟨rfl, (fun _ h => absurd h List.not_mem_nil)⟩)⟩) rfl ?_
  intro p e s m args below meth c C hin htab
  refine x_wf (fun hw => ?_)
  have hRC := hJ.1
  obtain ⟨hB, hH, hA, hP, hI⟩ := id hW
  obtain ⟨⟨b0, b6, b7⟩, ⟨bk1, bk2, bk3, bk4, bk5, bk8, bk9⟩, ⟨bp0, bp1, bp2, bp3, bp4, bp5, bp6, bp7, bp8⟩, -⟩ := id hB
  obtain ⟨hl1, hh1⟩ := id hH
  obtain ⟨hl2, hh2⟩ := id hA
  obtain ⟨hl3, hh3⟩ := id hP
  obtain ⟨iH, iA, iAd, iHl, iP, iS, hRw, iU⟩ := id hI
  have iH1 := iH.1
  have iA1 := iA.1
  have iA2 := iA.2
  have iP1 := iP.1
  have hl5a := hF.1
  refine x_iload_n 1 C dX11_pass_0 rfl rfl ?_
  refine x_iconst 2 C dX11_pass_1 rfl ?_
  refine x_icmp_lt 5 12 C dX11_pass_2 rfl (by decide) (by first | exact hRw _ _ | assumption | exact ⟨by omega, by omega⟩ | exact hw.1 _ _ | omega) (by first | exact hRw _ _ | assumption | exact ⟨by omega, by omega⟩ | exact hw.1 _ _ | omega) (fun h2 => ?_) (fun h2 => ?_)
  · skip
    exact x_throw (text := "no such ticks") C hl htab tqA (by decide +kernel) dX11_pass_12 dX11_pass_15 dX11_pass_16 dX11_pass_18 dX11_pass_21 ⟨Nat.le_of_ble_eq_true rfl, Nat.le_of_ble_eq_true rfl⟩ ⟨by omega, by omega⟩ ⟨rfl, rfl, if_neg (fun z => by (have := rLs_t.mp z; omega))⟩
  · skip
    refine x_iload_n 6 C dX11_pass_5 rfl rfl ?_
    refine x_sipush 9 C dX11_pass_6 rfl (by decide) ?_
    refine x_icmp_le 12 22 C dX11_pass_9 rfl (by decide) (by first | exact hRw _ _ | assumption | exact ⟨by omega, by omega⟩ | exact hw.1 _ _ | omega) (by first | exact hRw _ _ | assumption | exact ⟨by omega, by omega⟩ | exact hw.1 _ _ | omega) (fun h9 => ?_) (fun h9 => ?_)
    · skip
      refine x_aload_n 23 C dX11_pass_22 rfl rfl ?_
      refine x_dup 24 C dX11_pass_23 rfl rfl ?_
      refine x_getIv 27 1408 C fr_X11_255 dX11_pass_24 rfl rfl rfl rfl (by assumption) (by first | assumption | rfl) ?_
      refine x_iload_n 28 C dX11_pass_27 rfl rfl ?_
      refine x_iadd 29 C dX11_pass_28 rfl ?_
      refine x_putI 32 1408 C fw_X11_255 (fun h => by cases h) dX11_pass_29 rfl rfl rfl rfl rfl (by assumption) ⟨by omega, by omega⟩ ?_
      obtain ⟨G1, hG1⟩ : ∃ G1 : GT, G1 = sI G 1408 (B 0) (R 0 0 + t) := ⟨_, rfl⟩
      refine x_as (G' := G1) hG1 rfl rfl ?_
      obtain ⟨R1, hR1⟩ : ∃ R1 : RT, R1 = u2 R 0 0 (R 0 0 + t) := ⟨_, rfl⟩
      have hR1o : ∀ f : Nat, f ≠ 0 → R1 f = R f := fun f hf => by (rw [hR1]; funext j; exact u2_k hf)
      have hR10 : R1 0 0 = R 0 0 + t := by (rw [hR1]; exact u2_s)
      have hF1 : rkFr [1408] [] G G1 := by (rw [hG1]; exact fr_sI (by decide) (by decide) fr_rfl)
      have hB1 := rkB_fr hB hF1 (by decide)
      have hC1 : rkC G1 B R1 := rkC_R (rkC_fr hB hC hF1 (by decide) List.not_mem_nil List.not_mem_nil) (fun f f1 f2 => hR1o f (by omega)) (by rw [hR1o 1 (by decide)]; exact Int.le_refl _)
      have hJ1 : rkJ R1 := ⟨by (unfold RC; rw [hR1o 34 (by decide), hR1o 37 (by decide), hR1o 3 (by decide), hR1o 39 (by decide), hR1o 35 (by decide), hR1o 36 (by decide)]; exact hRC), by (unfold rkCd; rw [hR1o 34 (by decide), hR1o 43 (by decide)]; exact hJ.2.1), by (unfold rkCu; rw [hR1o 34 (by decide), hR1o 35 (by decide), hR1o 37 (by decide), hR1o 39 (by decide), hR1o 41 (by decide)]; exact hJ.2.2.1), fun k j => by (rw [hR1]; unfold u2; split; exact ⟨by omega, by omega⟩; exact hRw _ _)⟩
      have n481 : gI G1 1408 (B 0) = R 0 0 + t := by (rw [hG1]; exact u2_s)
      have b01 := hB1.1.1
      have np51 := hB1.2.2.1.2.2.2.2.2.1
      have b61 := hB1.1.2.1
      refine x_aload_n 33 C dX11_pass_32 rfl rfl ?_
      refine x_getO 36 1405 C fr_X11_31 dX11_pass_33 rfl rfl rfl rfl (by assumption) (by assumption) ?_
      refine x_aload_n 37 C dX11_pass_36 rfl rfl ?_
      refine x_getIv 40 1408 C fr_X11_255 dX11_pass_37 rfl rfl rfl rfl (by assumption) (by first | assumption | rfl) ?_
      refine x_as (st' := [.int (i32 (R1 0 0)), .ref (B 6)]) rfl rfl (by rw [hR10]) ?_
      refine x_callV (As := [_]) 43 9 1 6 C vw_X11_258 iw_X6_dropGone sw_X6_dropGone (c_X6_dropGone hB1 hC1 hJ1.1 (hJ1.2.2.2 0 0)) dX11_pass_40 rfl rfl rfl rfl rfl rfl b61 ⟨Nat.le_of_ble_eq_true rfl, Nat.le_of_ble_eq_true rfl⟩ (Nat.le_of_ble_eq_true rfl) ⟨Nat.le_refl _, Nat.le_refl _⟩ (fun v G' hq => ?_)
      obtain ⟨rfl, hF12, hC2⟩ := hq
      obtain ⟨G2, hG2⟩ : ∃ z, z = G' := ⟨_, rfl⟩
      subst hG2
      refine x_as rfl rfl rfl ?_
      have hF02 : rkFr [1408] [B 8] G G2 := fr_tr (fr_wide hF1 (fun k z => z) (fun k z => by cases z)) (fr_wide hF12 (fun k z => by cases z) (fun k z => z))
      have hn8 : B 2 ≠ B 8 ∧ B 5 ≠ B 8 ∧ B 2 ≠ B 5 ∧ B 1 ≠ B 5 := ⟨hB.2.2.2.2.2.2.2.2.2.2.2.2.1, hB.2.2.2.2.2.2.2.2.2.2.2.2.2.2.2.2.2.2.2.2.2.1, hB.2.2.2.2.2.2.2.2.2.2.2.1, hB.2.2.2.2.2.2.1⟩
      have hB2 := rkB_fr hB hF02 (by decide)
      have hF2 : rkF G2 B R := rkF_fr hB hF hF02 (by decide) ⟨by simpa using hn8.1, by simpa using hn8.2.1⟩ (fun _ _ => rfl) (Int.le_refl _)
      have el52 : gL G2 (B 5) = gL G (B 5) := hF02.2.2.1 (B 5) (by omega) (by simpa using hn8.2.1)
      have n482 : gI G2 1408 (B 0) = R 0 0 + t := ((hF12.2.1 1408 (B 0) (by omega) List.not_mem_nil).1).trans n481
      have b02 := hB2.1.1
      refine x_aload_n 44 C dX11_pass_43 rfl rfl ?_
      refine x_callV (As := []) 47 14 1 6 C vw_X11_262 iw_X11_dropGonePreflights sw_X11_dropGonePreflights (c_X11_dropGonePreflights hB2 (n := ((gL G2 (B 5)).length : Int)) rfl (by rw [el52]; omega) (fun p p0 p1 => by (obtain ⟨k, -, k2, -⟩ := hF2.2.2.1 _ (List.mem_of_getElem? (rkAt_get rfl p0 p1)); exact k2.1)) n482) dX11_pass_44 rfl rfl rfl rfl rfl rfl b02 ⟨Nat.le_of_ble_eq_true rfl, Nat.le_of_ble_eq_true rfl⟩ (Nat.le_of_ble_eq_true rfl) ⟨Nat.le_refl _, Nat.le_refl _⟩ (fun v G' hq => ?_)
      obtain ⟨rfl, hG9⟩ := hq
      replace hG9 := hG9.symm
      subst hG9
      refine x_as rfl rfl rfl ?_
      refine x_aload_n 48 C dX11_pass_47 rfl rfl ?_
      refine x_getIv 51 1408 C fr_X11_255 dX11_pass_48 rfl rfl rfl rfl b02 n482 ?_
      exact x_through (x_iret C dX11_pass_51 rfl (by have hc0 : rPassC t = 0 := if_pos (rLs_t.mpr (by omega)); have e34 : R1 34 0 = R 34 0 := (by rw [hR1o 34 (by decide)]); rw [e34, hR1] at hC2; exact ⟨vi (by unfold rPass; rw [hc0, if_neg (show ¬ (0 : Int) < 0 by decide)]), hc0, fr_sL (by simp) (fr_wide hF02 (fun k z => z) (fun k z => by simp at z; simp [z])), n482, rkC_fr hB2 hC2 (fr_sL List.mem_cons_self fr_rfl : rkFr [] [B 5] G2 _) (fun k z => by cases z) (by simpa using hn8.2.2.2) (by simpa using (fun z => hn8.2.1 z.symm)), rkPs_J _ _ (hR1 ▸ hJ1) (by rw [← hR1, e34]; have := hRC.1; omega), rkF_gone hF2 (S := (rPassF (R 34 0).toNat (u2 R 0 0 (R 0 0 + t)))) (by rw [rkPs_o 0 (by decide)]; exact u2_s) (by omega) (fun f hf => by (rw [rkPs_o f (by omega)]; funext j; exact u2_k (by omega))) hn8.2.2.1⟩))
    · skip
      exact x_throw (text := "no such ticks") C hl htab tqA (by decide +kernel) dX11_pass_12 dX11_pass_15 dX11_pass_16 dX11_pass_18 dX11_pass_21 ⟨Nat.le_of_ble_eq_true rfl, Nat.le_of_ble_eq_true rfl⟩ ⟨by omega, by omega⟩ ⟨rfl, rfl, if_neg (fun z => by (have := rLs_t.mp z; omega))⟩
