/-! rows laid by program (wip/tools/gen.py) -/
set_option maxHeartbeats 4000000 in
set_option maxRecDepth 100000 in
theorem c_X12_pass {E : EV} {l : Launch} {G : GT} {R : RT} {o : Nat} {t : Int} (hM : RM G o) (h1 : InR t) (hC : 0 ≤ R 34 0 ∧ R 34 0 ≤ 11) (hT : 0 ≤ R 0 0 ∧ R 0 0 ≤ 1000000000) : MT E l yX12_pass cX12_pass 3 (some .int) 1 22 0 0 [.ref o, .int (i32 t)] (wR G R) (pD (some (.int (i32 (rPass R t)))) (wR G (rPassR R t))) := by
  refine mt_of (own := RX12) (L := [some (.ref o), some (.int (i32 t)), none]) (by decide +kernel) rfl (Nat.le_of_ble_eq_true rfl) (List.forall_mem_cons.mpr ⟨rfl, (List.forall_mem_cons.mpr ⟨rfl, (fun _ h => absurd h List.not_mem_nil)⟩)⟩) rfl ?_
  intro p e s m args below meth c C hin
  refine x_wf (fun hw => ?_)
  have hr0 : ∀ k j, InR (R k j) := hw.2.2.1
  have hz0 : ∀ k j, mZ k = true → R k j = 0 ∨ R k j = 1 := hw.2.2.2.2.1
  have hc : 0 ≤ rPassC t ∧ rPassC t ≤ 3 := by unfold rPassC; (repeat (first | omega | split))
  refine x_aload_n 1 C dX12_pass_0 rfl rfl ?_
  refine x_joinv 17 (fun vJ => vJ = rPassC t) ?_ (fun hJ17 => ?_)
  · intro vJ hJ
    subst hJ
    refine x_Vr (As := [_]) 20 C vw_X12_187 iw_X12_fails sw_X12_fails (c_X12_fails hM (by first | assumption | omega | exact ⟨by omega, by omega⟩)) dX12_pass_17 rfl rfl rfl rfl rfl rfl hM.1 ⟨Nat.le_of_ble_eq_true rfl, Nat.le_of_ble_eq_true rfl⟩ (Nat.le_of_ble_eq_true rfl) ?_
    refine x_wf (fun hw => ?_)
    refine x_if_eqB 23 25 C dX12_pass_20 rfl (by decide) (fun h20 => ?_) (fun h20 => ?_)
    · skip
      replace h20 := of_decide_eq_false h20
      have hx := rLies_t.mp (show rLies t 1 1000 = true by (by_cases y : rLies t 1 1000 = true; exact y; exact absurd (show 0 < rPassC t by rw [rPassC, if_neg y]; decide) h20))
      refine x_aload_n 26 C dX12_pass_25 rfl rfl ?_
      refine x_dup 27 C dX12_pass_26 rfl rfl ?_
      refine x_mget 30 0 C fr_X12_244 dX12_pass_27 rfl rfl hM ?_
      (try simp only [u2r, false_and, and_false, true_and, and_true, ↓reduceIte, Nat.reduceEqDiff])
      refine x_iload_n 31 C dX12_pass_30 rfl rfl ?_
      refine x_iadd 32 C dX12_pass_31 rfl ?_
      refine x_mput 35 0 C fw_X12_244 dX12_pass_32 rfl rfl rfl hM (by first | exact hr1 _ _ | exact hw.2.2.1 _ _ | exact hr0 _ _ | assumption | omega | exact ⟨by omega, by omega⟩) (fun z => absurd z (by decide)) ?_
      refine x_wf (fun hw => ?_)
      refine x_aload_n 36 C dX12_pass_35 rfl rfl ?_
      refine x_mget 39 34 C fr_X12_260 dX12_pass_36 rfl rfl hM ?_
      (try simp only [u2r, false_and, and_false, true_and, and_true, ↓reduceIte, Nat.reduceEqDiff])
      refine x_iconst 40 C dX12_pass_39 rfl ?_
      refine x_isub 41 C dX12_pass_40 rfl ?_
      refine x_istore_n 42 C dX12_pass_41 rfl rfl rfl ?_
      refine x_loop (α := Int × RT) (fun ⟨k, S⟩ => (k + 1).toNat) (fun ⟨k, S⟩ => -1 ≤ k ∧ k < S 34 0 ∧ S 34 0 ≤ 11 ∧ S 0 0 = R 0 0 + t ∧ rPassF (k + 1).toNat S = rPassR R t) (fun ⟨k, S⟩ => wR G S) (fun ⟨k, S⟩ => [some (.ref o), some (.int (i32 t)), some (.int (i32 k))]) (fun _ => []) (R 34 0 - 1, u2 (u2 R 71 0 (rPassC t)) 0 0 (R 0 0 + t)) ⟨by (try dsimp only); omega, by show R 34 0 - 1 < R 34 0; omega, hC.2, rfl, by (try dsimp only); rw [rPassR, if_neg h20, show R 34 0 - 1 + 1 = R 34 0 by omega]; rfl⟩ rfl rfl rfl ?_
      intro aa hI ih
      obtain ⟨k, S⟩ := aa
      (try dsimp only at hI); (try dsimp only at ih); (try dsimp only)
      obtain ⟨i1, i2, i3, i4, i5⟩ := hI
      refine x_wf (fun hw => ?_)
      have hr1 : ∀ k j, InR (S k j) := hw.2.2.1
      refine x_iload_n 43 C dX12_pass_42 rfl rfl ?_
      refine x_if_lt 46 80 C dX12_pass_43 rfl (by decide) (by first | exact hr1 _ _ | exact hw.2.2.1 _ _ | exact hr0 _ _ | assumption | omega | exact ⟨by omega, by omega⟩) (fun h43 => ?_) (fun h43 => ?_)
      · skip
        refine x_aload_n 81 C dX12_pass_80 rfl rfl ?_
        refine x_mget 84 0 C fr_X12_244 dX12_pass_81 rfl rfl hM ?_
        (try simp only [u2r, false_and, and_false, true_and, and_true, ↓reduceIte, Nat.reduceEqDiff])
        exact x_iret C dX12_pass_84 rfl ⟨vi (by rw [rPass, if_neg h20]; first | exact i4 | (rw [← i4]; done)), by first | (rw [rPassR, if_pos h20]; rfl) | (rw [← i5, show (k + 1).toNat = 0 by omega]; rfl)⟩
      · skip
        refine x_aload_n 47 C dX12_pass_46 rfl rfl ?_
        refine x_mrow 50 42 C fr_X12_113 dX12_pass_47 rfl rfl hM ?_
        refine x_iload_n 51 C dX12_pass_50 rfl rfl ?_
        refine x_mldI 52 42 C dX12_pass_51 rfl rfl hM (by first | exact hIx | exact ⟨by omega, Int.lt_of_lt_of_le (b := 12) (by omega) (by decide)⟩) ?_
        (try simp only [u2r, false_and, and_false, true_and, and_true, ↓reduceIte, Nat.reduceEqDiff])
        refine x_iconst 53 C dX12_pass_52 rfl ?_
        refine x_icmp_eq 56 74 C dX12_pass_53 rfl (by decide) (by first | exact hr1 _ _ | exact hw.2.2.1 _ _ | exact hr0 _ _ | assumption | omega | exact ⟨by omega, by omega⟩) (by first | exact hr1 _ _ | exact hw.2.2.1 _ _ | exact hr0 _ _ | assumption | omega | exact ⟨by omega, by omega⟩) (fun h53 => ?_) (fun h53 => ?_)
        · skip
          refine x_iinc 77 C dX12_pass_74 rfl rfl rfl rfl ?_
          refine x_goto 42 C dX12_pass_77 (by decide) ?_
          first | exact ih (k + -1, rDrops S k) ⟨by dsimp only; omega, by dsimp only; rw [rDrops_34]; omega, by dsimp only; rw [rDrops_34]; omega, by dsimp only; rw [rDrops_out (Or.inl (by omega))]; exact i4, by dsimp only; rw [← i5, show (k + 1).toNat = k.toNat + 1 by omega, rPassF, show ((k.toNat : Nat) : Int) = k by omega, if_pos ⟨h53, h66⟩, show (k + -1 + 1).toNat = k.toNat by omega]⟩ (by dsimp only; omega) | exact ih (k + -1, S) ⟨by dsimp only; omega, by dsimp only; omega, i3, i4, by dsimp only; rw [← i5, show (k + 1).toNat = k.toNat + 1 by omega, rPassF, if_neg (by first | exact fun z => z.1 h53 | exact fun z => absurd z.2 (by omega)), show (k + -1 + 1).toNat = k.toNat by omega]⟩ (by dsimp only; omega)
        · skip
          refine x_aload_n 57 C dX12_pass_56 rfl rfl ?_
          refine x_mrow 60 42 C fr_X12_113 dX12_pass_57 rfl rfl hM ?_
          refine x_iload_n 61 C dX12_pass_60 rfl rfl ?_
          refine x_mldI 62 42 C dX12_pass_61 rfl rfl hM (by first | exact hIx | exact ⟨by omega, Int.lt_of_lt_of_le (b := 12) (by omega) (by decide)⟩) ?_
          (try simp only [u2r, false_and, and_false, true_and, and_true, ↓reduceIte, Nat.reduceEqDiff])
          refine x_aload_n 63 C dX12_pass_62 rfl rfl ?_
          refine x_mget 66 0 C fr_X12_244 dX12_pass_63 rfl rfl hM ?_
          (try simp only [u2r, false_and, and_false, true_and, and_true, ↓reduceIte, Nat.reduceEqDiff])
          refine x_icmp_gt 69 74 C dX12_pass_66 rfl (by decide) (by first | exact hr1 _ _ | exact hw.2.2.1 _ _ | exact hr0 _ _ | assumption | omega | exact ⟨by omega, by omega⟩) (by first | exact hr1 _ _ | exact hw.2.2.1 _ _ | exact hr0 _ _ | assumption | omega | exact ⟨by omega, by omega⟩) (fun h66 => ?_) (fun h66 => ?_)
          · skip
            refine x_iinc 77 C dX12_pass_74 rfl rfl rfl rfl ?_
            refine x_goto 42 C dX12_pass_77 (by decide) ?_
            first | exact ih (k + -1, rDrops S k) ⟨by dsimp only; omega, by dsimp only; rw [rDrops_34]; omega, by dsimp only; rw [rDrops_34]; omega, by dsimp only; rw [rDrops_out (Or.inl (by omega))]; exact i4, by dsimp only; rw [← i5, show (k + 1).toNat = k.toNat + 1 by omega, rPassF, show ((k.toNat : Nat) : Int) = k by omega, if_pos ⟨h53, h66⟩, show (k + -1 + 1).toNat = k.toNat by omega]⟩ (by dsimp only; omega) | exact ih (k + -1, S) ⟨by dsimp only; omega, by dsimp only; omega, i3, i4, by dsimp only; rw [← i5, show (k + 1).toNat = k.toNat + 1 by omega, rPassF, if_neg (by first | exact fun z => z.1 h53 | exact fun z => absurd z.2 (by omega)), show (k + -1 + 1).toNat = k.toNat by omega]⟩ (by dsimp only; omega)
          · skip
            refine x_aload_n 70 C dX12_pass_69 rfl rfl ?_
            refine x_iload_n 71 C dX12_pass_70 rfl rfl ?_
            refine x_Vv (As := [_]) 74 C vw_X12_292 iw_X12_drops sw_X12_drops (c_X12_drops (R := S) hM (by omega) (by omega)) dX12_pass_71 rfl rfl rfl rfl rfl rfl hM.1 ⟨Nat.le_of_ble_eq_true rfl, Nat.le_of_ble_eq_true rfl⟩ (Nat.le_of_ble_eq_true rfl) ?_
            refine x_wf (fun hw => ?_)
            refine x_iinc 77 C dX12_pass_74 rfl rfl rfl rfl ?_
            refine x_goto 42 C dX12_pass_77 (by decide) ?_
            first | exact ih (k + -1, rDrops S k) ⟨by dsimp only; omega, by dsimp only; rw [rDrops_34]; omega, by dsimp only; rw [rDrops_34]; omega, by dsimp only; rw [rDrops_out (Or.inl (by omega))]; exact i4, by dsimp only; rw [← i5, show (k + 1).toNat = k.toNat + 1 by omega, rPassF, show ((k.toNat : Nat) : Int) = k by omega, if_pos ⟨h53, h66⟩, show (k + -1 + 1).toNat = k.toNat by omega]⟩ (by dsimp only; omega) | exact ih (k + -1, S) ⟨by dsimp only; omega, by dsimp only; omega, i3, i4, by dsimp only; rw [← i5, show (k + 1).toNat = k.toNat + 1 by omega, rPassF, if_neg (by first | exact fun z => z.1 h53 | exact fun z => absurd z.2 (by omega)), show (k + -1 + 1).toNat = k.toNat by omega]⟩ (by dsimp only; omega)
    · skip
      replace h20 := of_decide_eq_true h20
      refine x_iconst 24 C dX12_pass_23 rfl ?_
      exact x_iret C dX12_pass_24 rfl ⟨vi (by rw [rPass, if_pos h20]), by first | (rw [rPassR, if_pos h20]; rfl) | (rw [← i5, show (k + 1).toNat = 0 by omega]; rfl)⟩
  · skip
    refine x_iload_n 2 C dX12_pass_1 rfl rfl ?_
    refine x_iconst 3 C dX12_pass_2 rfl ?_
    refine x_sipush 6 C dX12_pass_3 rfl (by decide) ?_
    refine x_Sr (As := [_, _, _]) 9 C vw_X12_168 tw_X12_lies (c_X12_lies (by first | assumption | omega) (by omega) (by omega)) dX12_pass_6 rfl rfl rfl ⟨Nat.le_of_ble_eq_true rfl, Nat.le_of_ble_eq_true rfl⟩ (Nat.le_of_ble_eq_true rfl) ?_
    refine x_if_eqB 12 16 C dX12_pass_9 rfl (by decide) (fun h9 => ?_) (fun h9 => ?_)
    · skip
      refine x_iconst 17 C dX12_pass_16 rfl ?_
      exact hJ17 _ (by first | (simp [bI, rPassC, h9]; done) | (simp [bI, rPassC, h9]; omega) | (simp [bI, rPassC, h9] at *; omega))
    · skip
      refine x_iconst 13 C dX12_pass_12 rfl ?_
      refine x_goto 17 C dX12_pass_13 (by decide) ?_
      exact hJ17 _ (by first | (simp [bI, rPassC, h9]; done) | (simp [bI, rPassC, h9]; omega) | (simp [bI, rPassC, h9] at *; omega))
