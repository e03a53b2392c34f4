/-! rows laid by program (wip/tools/gen.py) -/
set_option maxHeartbeats 4000000 in
set_option maxRecDepth 100000 in
theorem c_X12_records {E : EV} {l : Launch} {G : GT} {R : RT} {o : Nat} {a q : Int} (hM : RM G o) (hA : RA R) (hD : RAd R) (hP : RP R) (hQ : RQ R) (h1 : 0 ≤ a ∧ a < R 7 0) (h2 : 0 ≤ q ∧ q < 240) (h3 : 0 ≤ R 28 0 ∧ R 28 0 < 40) (h4 : 0 ≤ R 30 (R 28 0).toNat ∧ R 30 (R 28 0).toNat ≤ 6) : MT E l yX12_records cX12_records 3 none 3 66 0 0 [.ref o, .int (i32 a), .int (i32 q)] (wR G R) (pD none (wR G (rRec R a q))) := by
  refine mt_of (own := RX12) (L := [some (.ref o), some (.int (i32 a)), some (.int (i32 q))]) (by decide +kernel) rfl (Nat.le_of_ble_eq_true rfl) (List.forall_mem_cons.mpr ⟨rfl, (List.forall_mem_cons.mpr ⟨rfl, (List.forall_mem_cons.mpr ⟨rfl, (fun _ h => absurd h List.not_mem_nil)⟩)⟩)⟩) rfl ?_
  intro p e s m args below meth c C hin
  refine x_wf (fun hw => ?_)
  have hr0 : ∀ k j, InR (R k j) := hw.2.2.1
  have hz0 : ∀ k j, mZ k = true → R k j = 0 ∨ R k j = 1 := hw.2.2.2.2.1
  have hh := hA.1
  have hh2 := hA.2
  have hq := hQ.2.2
  have hr := rRef_in R a
  have hv : 0 ≤ (if R 67 0 = 0 then (0:Int) else 10) ∧ (if R 67 0 = 0 then (0:Int) else 10) ≤ 10 := by split <;> omega
  refine x_aload_n 1 C dX12_records_0 rfl rfl ?_
  refine x_mrow 4 31 C fr_X12_83 dX12_records_1 rfl rfl hM ?_
  refine x_iload_n 5 C dX12_records_4 rfl rfl ?_
  refine x_sipush 8 C dX12_records_5 rfl (by decide) ?_
  refine x_iload_n 9 C dX12_records_8 rfl rfl ?_
  refine x_imul 10 C dX12_records_9 rfl ?_
  refine x_bipush 12 C dX12_records_10 rfl (by decide) ?_
  refine x_aload_n 13 C dX12_records_12 rfl rfl ?_
  refine x_mget 16 66 C fr_X12_306 dX12_records_13 rfl rfl hM ?_
  refine x_imul 17 C dX12_records_16 rfl ?_
  refine x_iadd 18 C dX12_records_17 rfl ?_
  refine x_joinv 31 (fun vJ => vJ = if R 67 0 = 0 then 0 else 10) ?_ (fun hJ31 => ?_)
  · intro vJ hJ
    subst hJ
    refine x_iadd 32 C dX12_records_31 rfl ?_
    refine x_aload_n 33 C dX12_records_32 rfl rfl ?_
    refine x_iload_n 34 C dX12_records_33 rfl rfl ?_
    refine x_Vr (As := [_]) 37 C vw_X12_343 iw_X12_referrer sw_X12_referrer (c_X12_referrer hM hA hD hP hQ (by omega)) dX12_records_34 rfl rfl rfl rfl rfl rfl hM.1 ⟨Nat.le_of_ble_eq_true rfl, Nat.le_of_ble_eq_true rfl⟩ (Nat.le_of_ble_eq_true rfl) ?_
    refine x_iadd 38 C dX12_records_37 rfl ?_
    refine x_mstI 39 31 C dX12_records_38 rfl rfl hM ⟨by omega, Int.lt_of_lt_of_le (b := 240) (by omega) (by decide)⟩ (by first | exact hw.2.2.1 _ _ | exact hr0 _ _ | assumption | omega | exact ⟨by omega, by omega⟩) ?_
    refine x_wf (fun hw => ?_)
    refine x_aload_n 40 C dX12_records_39 rfl rfl ?_
    refine x_mrow 43 32 C fr_X12_86 dX12_records_40 rfl rfl hM ?_
    refine x_iload_n 44 C dX12_records_43 rfl rfl ?_
    refine x_iconst 45 C dX12_records_44 rfl ?_
    refine x_mstI 46 32 C dX12_records_45 rfl rfl hM ⟨by omega, Int.lt_of_lt_of_le (b := 240) (by omega) (by decide)⟩ (by first | exact hw.2.2.1 _ _ | exact hr0 _ _ | assumption | omega | exact ⟨by omega, by omega⟩) ?_
    refine x_wf (fun hw => ?_)
    refine x_aload_n 47 C dX12_records_46 rfl rfl ?_
    refine x_mrow 50 30 C fr_X12_80 dX12_records_47 rfl rfl hM ?_
    refine x_aload_n 51 C dX12_records_50 rfl rfl ?_
    refine x_mget 54 28 C fr_X12_346 dX12_records_51 rfl rfl hM ?_
    (try simp only [u2r, false_and, and_false, true_and, and_true, ↓reduceIte, Nat.reduceEqDiff])
    refine x_dup2 55 C dX12_records_54 rfl rfl rfl ?_
    refine x_mldI 56 30 C dX12_records_55 rfl rfl hM (by first | exact hIx | exact ⟨by omega, Int.lt_of_lt_of_le (b := 40) (by omega) (by decide)⟩) ?_
    (try simp only [u2r, false_and, and_false, true_and, and_true, ↓reduceIte, Nat.reduceEqDiff])
    refine x_iconst 57 C dX12_records_56 rfl ?_
    refine x_iadd 58 C dX12_records_57 rfl ?_
    refine x_mstI 59 30 C dX12_records_58 rfl rfl hM ⟨by omega, Int.lt_of_lt_of_le (b := 40) (by omega) (by decide)⟩ (by first | exact hw.2.2.1 _ _ | exact hr0 _ _ | assumption | omega | exact ⟨by omega, by omega⟩) ?_
    refine x_wf (fun hw => ?_)
    exact x_ret C dX12_records_59 ⟨rfl, rfl⟩
  · skip
    refine x_aload_n 19 C dX12_records_18 rfl rfl ?_
    refine x_mget 22 67 C fr_X12_321 dX12_records_19 rfl rfl hM ?_
    refine x_if_eq 25 30 C dX12_records_22 rfl (by decide) (by first | exact hw.2.2.1 _ _ | exact hr0 _ _ | assumption | omega | exact ⟨by omega, by omega⟩) (fun h22 => ?_) (fun h22 => ?_)
    · skip
      refine x_iconst 31 C dX12_records_30 rfl ?_
      exact hJ31 _ (by first | (simp [bI, h22]; done) | (simp [bI, h22]; omega) | (simp [bI, h22] at *; omega))
    · skip
      refine x_bipush 27 C dX12_records_25 rfl (by decide) ?_
      refine x_goto 31 C dX12_records_27 (by decide) ?_
      exact hJ31 _ (by first | (simp [bI, h22]; done) | (simp [bI, h22]; omega) | (simp [bI, h22] at *; omega))
