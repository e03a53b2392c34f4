/-! rows laid by program (wip/tools/gen.py) -/
set_option maxHeartbeats 1000000 in
set_option maxRecDepth 100000 in
theorem c_X12_text {E : EV} {l : Launch} {G : GT} {R : RT} {o : Nat} {a k : Int} (hM : RM G o) (hH : RH R) (hl : RHl R) (hA : RA R) (hD : RAd R) (h1 : InR a) (h2 : InR k) : MT E l yX12_text cX12_text 4 (some .char) 2 51 0 0 [.ref o, .int (i32 a), .int (i32 k)] (wR G R) (pD (some (.int (i32 (rTx R a k)))) (wR G (rF R (rTxC R a k)))) := by
  refine mt_of (own := RX12) (L := [some (.ref o), some (.int (i32 a)), some (.int (i32 k)), none]) (by decide +kernel) rfl (Nat.le_of_ble_eq_true rfl) (List.forall_mem_cons.mpr ⟨rfl, (List.forall_mem_cons.mpr ⟨rfl, (List.forall_mem_cons.mpr ⟨rfl, (fun _ h => absurd h List.not_mem_nil)⟩)⟩)⟩) rfl ?_
  intro p e s m args below meth c C hin
  refine x_wf (fun hw => ?_)
  have hr0 : ∀ k j, InR (R k j) := hw.2.2.1
  have hz0 : ∀ k j, mZ k = true → R k j = 0 ∨ R k j = 1 := hw.2.2.2.2.1
  have hh := hA.1
  have hh2 := hA.2
  have hc : 0 ≤ rTxC R a k ∧ rTxC R a k ≤ 3 := by unfold rTxC; (repeat (first | omega | split))
  refine x_joinv 24 (fun vJ => vJ = bI (rIsAddress R a && decide (¬ rSign R a k = 32))) ?_ (fun hJ24 => ?_)
  · intro vJ hJ
    subst hJ
    refine x_istore_n 25 C dX12_text_24 rfl rfl rfl ?_
    refine x_aload_n 26 C dX12_text_25 rfl rfl ?_
    refine x_joinv 35 (fun vJ => vJ = rTxC R a k) ?_ (fun hJ35 => ?_)
    · intro vJ hJ
      subst hJ
      refine x_Vr (As := [_]) 38 C vw_X12_187 iw_X12_fails sw_X12_fails (c_X12_fails hM (by first | assumption | omega | exact ⟨by omega, by omega⟩)) dX12_text_35 rfl rfl rfl rfl rfl rfl hM.1 ⟨Nat.le_of_ble_eq_true rfl, Nat.le_of_ble_eq_true rfl⟩ (Nat.le_of_ble_eq_true rfl) ?_
      refine x_wf (fun hw => ?_)
      refine x_if_eqB 41 46 C dX12_text_38 rfl (by decide) (fun h38 => ?_) (fun h38 => ?_)
      · skip
        replace h38 := of_decide_eq_false h38
        have hq : (rIsAddress R a && decide (¬ rSign R a k = 32)) = true := by (by_cases y : (rIsAddress R a && decide (¬ rSign R a k = 32)) = true; exact y; exact absurd (show 0 < rTxC R a k by rw [rTxC, if_neg y]; decide) h38)
        simp only [Bool.and_eq_true] at hq
        have hx : 0 ≤ a ∧ a ≤ R 7 0 - 1 := rLies_t.mp hq.1
        have hsg := rSign_in hH hl (k := k) (hD a.toNat (by omega)).2.1
        refine x_aload_n 47 C dX12_text_46 rfl rfl ?_
        refine x_iload_n 48 C dX12_text_47 rfl rfl ?_
        refine x_iload_n 49 C dX12_text_48 rfl rfl ?_
        refine x_Vr (As := [_, _]) 52 C vw_X12_222 iw_X12_sign sw_X12_sign (c_X12_sign (R := u2 R 71 0 (rTxC R a k)) hM hH hl hA hD (by show 0 ≤ a ∧ a < R 7 0; omega) (by assumption)) dX12_text_49 rfl rfl rfl rfl rfl rfl hM.1 ⟨Nat.le_of_ble_eq_true rfl, Nat.le_of_ble_eq_true rfl⟩ (Nat.le_of_ble_eq_true rfl) ?_
        exact x_iret C dX12_text_52 (nar_c (by first | (rw [rSign_F]; omega) | omega)) ⟨vi (by first | (rw [rTx, if_pos h38]; done) | (rw [rTx, if_neg h38, rSign_F]; done)), rfl⟩
      · skip
        replace h38 := of_decide_eq_true h38
        refine x_bipush 43 C dX12_text_41 rfl (by decide) ?_
        refine x_goto 52 C dX12_text_43 (by decide) ?_
        exact x_iret C dX12_text_52 (nar_c (by first | (rw [rSign_F]; omega) | omega)) ⟨vi (by first | (rw [rTx, if_pos h38]; done) | (rw [rTx, if_neg h38, rSign_F]; done)), rfl⟩
    · skip
      refine x_iload_n 27 C dX12_text_26 rfl rfl ?_
      refine x_if_eqB 30 34 C dX12_text_27 rfl (by decide) (fun h27 => ?_) (fun h27 => ?_)
      · skip
        refine x_iconst 35 C dX12_text_34 rfl ?_
        exact hJ35 _ (by first | (simp [bI, rTxC, h27]; done) | (simp [bI, rTxC, h27]; omega) | (simp [bI, rTxC, h27] at *; omega))
      · skip
        refine x_iconst 31 C dX12_text_30 rfl ?_
        refine x_goto 35 C dX12_text_31 (by decide) ?_
        exact hJ35 _ (by first | (simp [bI, rTxC, h27]; done) | (simp [bI, rTxC, h27]; omega) | (simp [bI, rTxC, h27] at *; omega))
  · skip
    refine x_aload_n 1 C dX12_text_0 rfl rfl ?_
    refine x_iload_n 2 C dX12_text_1 rfl rfl ?_
    refine x_Vr (As := [_]) 5 C vw_X12_203 iw_X12_isAddress sw_X12_isAddress (c_X12_isAddress hM (by assumption) hA) dX12_text_2 rfl rfl rfl rfl rfl rfl hM.1 ⟨Nat.le_of_ble_eq_true rfl, Nat.le_of_ble_eq_true rfl⟩ (Nat.le_of_ble_eq_true rfl) ?_
    refine x_if_eqB 8 23 C dX12_text_5 rfl (by decide) (fun h5 => ?_) (fun h5 => ?_)
    · skip
      refine x_iconst 24 C dX12_text_23 rfl ?_
      exact hJ24 _ (by first | (simp [bI, h5]; done) | (simp [bI, h5]; omega) | (simp [bI, h5] at *; omega))
    · skip
      have hx : 0 ≤ a ∧ a ≤ R 7 0 - 1 := rLies_t.mp h5
      have hsg := rSign_in hH hl (k := k) (hD a.toNat (by omega)).2.1
      refine x_aload_n 9 C dX12_text_8 rfl rfl ?_
      refine x_iload_n 10 C dX12_text_9 rfl rfl ?_
      refine x_iload_n 11 C dX12_text_10 rfl rfl ?_
      refine x_Vr (As := [_, _]) 14 C vw_X12_222 iw_X12_sign sw_X12_sign (c_X12_sign hM hH hl hA hD (by omega) (by assumption)) dX12_text_11 rfl rfl rfl rfl rfl rfl hM.1 ⟨Nat.le_of_ble_eq_true rfl, Nat.le_of_ble_eq_true rfl⟩ (Nat.le_of_ble_eq_true rfl) ?_
      refine x_bipush 16 C dX12_text_14 rfl (by decide) ?_
      refine x_icmp_eq 19 23 C dX12_text_16 rfl (by decide) (by first | exact hw.2.2.1 _ _ | exact hr0 _ _ | assumption | omega | exact ⟨by omega, by omega⟩) (by first | exact hw.2.2.1 _ _ | exact hr0 _ _ | assumption | omega | exact ⟨by omega, by omega⟩) (fun h16 => ?_) (fun h16 => ?_)
      · skip
        refine x_iconst 24 C dX12_text_23 rfl ?_
        exact hJ24 _ (by first | (simp [bI, h5, h16]; done) | (simp [bI, h5, h16]; omega) | (simp [bI, h5, h16] at *; omega))
      · skip
        refine x_iconst 20 C dX12_text_19 rfl ?_
        refine x_goto 24 C dX12_text_20 (by decide) ?_
        exact hJ24 _ (by first | (simp [bI, h5, h16]; done) | (simp [bI, h5, h16]; omega) | (simp [bI, h5, h16] at *; omega))
