/-! rows laid by program (wip/tools/gen.py) -/
set_option maxHeartbeats 1000000 in
set_option maxRecDepth 100000 in
theorem c_X12_resolve {E : EV} {l : Launch} {G : GT} {R : RT} {o : Nat} {a r : Int} (hM : RM G o) (hA : RA R) (hD : RAd R) (h1 : InR a) (h2 : InR r) : MT E l yX12_resolve cX12_resolve 6 (some .int) 2 51 0 0 [.ref o, .int (i32 a), .int (i32 r)] (wR G R) (pD (some (.int (i32 (rRsl R a r)))) (wR G (rF (rRslT R a r) (rRslC R a r)))) := by
  refine mt_of (own := RX12) (L := [some (.ref o), some (.int (i32 a)), some (.int (i32 r)), none, none, none]) (by decide +kernel) rfl (Nat.le_of_ble_eq_true rfl) (List.forall_mem_cons.mpr ⟨rfl, (List.forall_mem_cons.mpr ⟨rfl, (List.forall_mem_cons.mpr ⟨rfl, (fun _ h => absurd h List.not_mem_nil)⟩)⟩)⟩) rfl ?_
  intro p e s m args below meth c C hin
  refine x_wf (fun hw => ?_)
  have hr0 : ∀ k j, InR (R k j) := hw.2.2.1
  have hz0 : ∀ k j, mZ k = true → R k j = 0 ∨ R k j = 1 := hw.2.2.2.2.1
  have hh := hA.1
  have hh2 := hA.2
  have hc : 0 ≤ rRslC R a r ∧ rRslC R a r ≤ 3 := by unfold rRslC; (repeat (first | omega | split))
  have hwr := rRslW_in (R := R) (a := a) (r := r)
  have hA1 := rRslS_A (a := a) (r := r) hA
  have hvr := rRslV_in (a := a) (r := r) hA
  refine x_aload_n 1 C dX12_resolve_0 rfl rfl ?_
  refine x_iload_n 2 C dX12_resolve_1 rfl rfl ?_
  refine x_Vr (As := [_]) 5 C vw_X12_203 iw_X12_isAddress sw_X12_isAddress (c_X12_isAddress hM (by assumption) hA) dX12_resolve_2 rfl rfl rfl rfl rfl rfl hM.1 ⟨Nat.le_of_ble_eq_true rfl, Nat.le_of_ble_eq_true rfl⟩ (Nat.le_of_ble_eq_true rfl) ?_
  refine x_istore_n 6 C dX12_resolve_5 rfl rfl rfl ?_
  refine x_join (α := Unit) 27 (fun u => True) (fun u => wR G (rRslS R a r)) (fun u => [some (.ref o), some (.int (i32 a)), some (.int (i32 r)), some (.int (i32 (bI (rIsAddress R a)))), none, none]) (fun u => [.int (i32 (rRslW R a r))]) ?_ (fun hJ27 => ?_)
  · intro aa hJ
    obtain ⟨u, rfl⟩ := (⟨aa, rfl⟩ : ∃ z, z = aa)
    (try dsimp only at hJ); (try dsimp only)
    refine x_wf (fun hw => ?_)
    refine x_istore 29 C dX12_resolve_27 rfl rfl rfl ?_
    refine x_join (α := Unit) 63 (fun u => True) (fun u => wR G (rRslT R a r)) (fun u => [some (.ref o), some (.int (i32 a)), some (.int (i32 r)), some (.int (i32 (bI (rIsAddress R a)))), some (.int (i32 (rRslW R a r))), none]) (fun u => [.int (i32 (rRslV R a r))]) ?_ (fun hJ63 => ?_)
    · intro aa hJ
      obtain ⟨u, rfl⟩ := (⟨aa, rfl⟩ : ∃ z, z = aa)
      (try dsimp only at hJ); (try dsimp only)
      refine x_wf (fun hw => ?_)
      refine x_istore 65 C dX12_resolve_63 rfl rfl rfl ?_
      refine x_aload_n 66 C dX12_resolve_65 rfl rfl ?_
      refine x_joinv 95 (fun vJ => vJ = rRslC R a r) ?_ (fun hJ95 => ?_)
      · intro vJ hJ
        subst hJ
        refine x_Vr (As := [_]) 98 C vw_X12_187 iw_X12_fails sw_X12_fails (c_X12_fails (R := rRslT R a r) hM ⟨by omega, by omega⟩) dX12_resolve_95 rfl rfl rfl rfl rfl rfl hM.1 ⟨Nat.le_of_ble_eq_true rfl, Nat.le_of_ble_eq_true rfl⟩ (Nat.le_of_ble_eq_true rfl) ?_
        refine x_wf (fun hw => ?_)
        refine x_if_eqB 101 105 C dX12_resolve_98 rfl (by decide) (fun h98 => ?_) (fun h98 => ?_)
        · skip
          replace h98 := of_decide_eq_false h98
          refine x_iload 107 C dX12_resolve_105 rfl rfl ?_
          exact x_iret C dX12_resolve_107 rfl ⟨vi (by first | (rw [rRsl, if_pos h98]; done) | (rw [rRsl, if_neg h98]; done)), rfl⟩
        · skip
          replace h98 := of_decide_eq_true h98
          refine x_iconst 102 C dX12_resolve_101 rfl ?_
          refine x_goto 107 C dX12_resolve_102 (by decide) ?_
          exact x_iret C dX12_resolve_107 rfl ⟨vi (by first | (rw [rRsl, if_pos h98]; done) | (rw [rRsl, if_neg h98]; done)), rfl⟩
      · skip
        refine x_iload_n 67 C dX12_resolve_66 rfl rfl ?_
        refine x_if_neB 70 74 C dX12_resolve_67 rfl (by decide) (fun h67 => ?_) (fun h67 => ?_)
        · skip
          refine x_iload 76 C dX12_resolve_74 rfl rfl ?_
          refine x_iconst 77 C dX12_resolve_76 rfl ?_
          refine x_icmp_ne 80 84 C dX12_resolve_77 rfl (by decide) (by first | exact hw.2.2.1 _ _ | exact hr0 _ _ | assumption | omega | exact ⟨by omega, by omega⟩) (by first | exact hw.2.2.1 _ _ | exact hr0 _ _ | assumption | omega | exact ⟨by omega, by omega⟩) (fun h77 => ?_) (fun h77 => ?_)
          · skip
            refine x_iload 86 C dX12_resolve_84 rfl rfl ?_
            refine x_iconst 87 C dX12_resolve_86 rfl ?_
            refine x_icmp_ne 90 94 C dX12_resolve_87 rfl (by decide) (by first | exact hw.2.2.1 _ _ | exact hr0 _ _ | assumption | omega | exact ⟨by omega, by omega⟩) (by first | exact hw.2.2.1 _ _ | exact hr0 _ _ | assumption | omega | exact ⟨by omega, by omega⟩) (fun h87 => ?_) (fun h87 => ?_)
            · skip
              refine x_iconst 95 C dX12_resolve_94 rfl ?_
              exact hJ95 _ (by first | (simp [bI, rRslC, h67, h77, h87]; done) | (simp [bI, rRslC, h67, h77, h87]; omega) | (simp [bI, rRslC, h67, h77, h87] at *; omega))
            · skip
              refine x_iconst 91 C dX12_resolve_90 rfl ?_
              refine x_goto 95 C dX12_resolve_91 (by decide) ?_
              exact hJ95 _ (by first | (simp [bI, rRslC, h67, h77, h87]; done) | (simp [bI, rRslC, h67, h77, h87]; omega) | (simp [bI, rRslC, h67, h77, h87] at *; omega))
          · skip
            refine x_iconst 81 C dX12_resolve_80 rfl ?_
            refine x_goto 95 C dX12_resolve_81 (by decide) ?_
            exact hJ95 _ (by first | (simp [bI, rRslC, h67, h77]; done) | (simp [bI, rRslC, h67, h77]; omega) | (simp [bI, rRslC, h67, h77] at *; omega))
        · skip
          refine x_iconst 71 C dX12_resolve_70 rfl ?_
          refine x_goto 95 C dX12_resolve_71 (by decide) ?_
          exact hJ95 _ (by first | (simp [bI, rRslC, h67]; done) | (simp [bI, rRslC, h67]; omega) | (simp [bI, rRslC, h67] at *; omega))
    · skip
      refine x_iload 31 C dX12_resolve_29 rfl rfl ?_
      refine x_iconst 32 C dX12_resolve_31 rfl ?_
      refine x_icmp_eq 35 62 C dX12_resolve_32 rfl (by decide) (by first | exact hw.2.2.1 _ _ | exact hr0 _ _ | assumption | omega | exact ⟨by omega, by omega⟩) (by first | exact hw.2.2.1 _ _ | exact hr0 _ _ | assumption | omega | exact ⟨by omega, by omega⟩) (fun h32 => ?_) (fun h32 => ?_)
      · skip
        refine x_iconst 63 C dX12_resolve_62 rfl ?_
        exact x_as (congrArg (wR G) (by simp [rRslT, bI, h32])) rfl (by simp [rRslV, bI, h32]) (hJ63 () trivial)
      · skip
        have hq : rRslIs R a r = true := by (by_cases y : rRslIs R a r = true; exact y; exact absurd (by rw [rRslW, if_neg y]) h32)
        simp only [rRslIs, Bool.and_eq_true] at hq
        have hx : 0 ≤ a ∧ a ≤ R 7 0 - 1 := rLies_t.mp hq.1
        refine x_aload_n 36 C dX12_resolve_35 rfl rfl ?_
        refine x_aload_n 37 C dX12_resolve_36 rfl rfl ?_
        refine x_mrow 40 8 C fr_X12_20 dX12_resolve_37 rfl rfl hM ?_
        refine x_iload_n 41 C dX12_resolve_40 rfl rfl ?_
        refine x_mldI 42 8 C dX12_resolve_41 rfl rfl hM ⟨by omega, Int.lt_of_lt_of_le (b := 24) (by omega) (by decide)⟩ ?_
        (try simp only [u2r, false_and, and_false, true_and, and_true, ↓reduceIte, Nat.reduceEqDiff])
        rw [rRslS_out (by decide)]
        refine x_aload_n 43 C dX12_resolve_42 rfl rfl ?_
        refine x_mrow 46 9 C fr_X12_23 dX12_resolve_43 rfl rfl hM ?_
        refine x_iload_n 47 C dX12_resolve_46 rfl rfl ?_
        refine x_mldI 48 9 C dX12_resolve_47 rfl rfl hM ⟨by omega, Int.lt_of_lt_of_le (b := 24) (by omega) (by decide)⟩ ?_
        (try simp only [u2r, false_and, and_false, true_and, and_true, ↓reduceIte, Nat.reduceEqDiff])
        rw [rRslS_out (by decide)]
        refine x_aload_n 49 C dX12_resolve_48 rfl rfl ?_
        refine x_mrow 52 10 C fr_X12_26 dX12_resolve_49 rfl rfl hM ?_
        refine x_iload_n 53 C dX12_resolve_52 rfl rfl ?_
        refine x_mldI 54 10 C dX12_resolve_53 rfl rfl hM ⟨by omega, Int.lt_of_lt_of_le (b := 24) (by omega) (by decide)⟩ ?_
        (try simp only [u2r, false_and, and_false, true_and, and_true, ↓reduceIte, Nat.reduceEqDiff])
        rw [rRslS_out (by decide)]
        refine x_iload 56 C dX12_resolve_54 rfl rfl ?_
        refine x_Vr (As := [_, _, _, _]) 59 C vw_X12_200 iw_X12_tells sw_X12_tells (c_X12_tells (R := rRslS R a r) hM (hr0 _ _) (hr0 _ _) (hr0 _ _) ⟨by omega, by omega⟩ hA1) dX12_resolve_56 rfl rfl rfl rfl rfl rfl hM.1 ⟨Nat.le_of_ble_eq_true rfl, Nat.le_of_ble_eq_true rfl⟩ (Nat.le_of_ble_eq_true rfl) ?_
        refine x_wf (fun hw => ?_)
        refine x_goto 63 C dX12_resolve_59 (by decide) ?_
        exact x_as (congrArg (wR G) (by simp [rRslT, bI, h32])) rfl (by simp [rRslV, bI, h32]) (hJ63 () trivial)
  · skip
    refine x_iload_n 7 C dX12_resolve_6 rfl rfl ?_
    refine x_if_eqB 10 26 C dX12_resolve_7 rfl (by decide) (fun h7 => ?_) (fun h7 => ?_)
    · skip
      refine x_iconst 27 C dX12_resolve_26 rfl ?_
      exact x_as (congrArg (wR G) (by simp [rRslS, rRslIs, bI, h7])) rfl (by simp [rRslW, rRslIs, bI, h7]) (hJ27 () trivial)
    · skip
      refine x_iload_n 11 C dX12_resolve_10 rfl rfl ?_
      refine x_Sr (As := [_]) 14 C vw_X12_206 tw_X12_isReference (c_X12_isReference (by first | assumption | omega)) dX12_resolve_11 rfl rfl rfl ⟨Nat.le_of_ble_eq_true rfl, Nat.le_of_ble_eq_true rfl⟩ (Nat.le_of_ble_eq_true rfl) ?_
      refine x_if_eqB 17 26 C dX12_resolve_14 rfl (by decide) (fun h14 => ?_) (fun h14 => ?_)
      · skip
        refine x_iconst 27 C dX12_resolve_26 rfl ?_
        exact x_as (congrArg (wR G) (by simp [rRslS, rRslIs, bI, h7, h14])) rfl (by simp [rRslW, rRslIs, bI, h7, h14]) (hJ27 () trivial)
      · skip
        have hx : 0 ≤ a ∧ a ≤ R 7 0 - 1 := rLies_t.mp h7
        refine x_aload_n 18 C dX12_resolve_17 rfl rfl ?_
        refine x_iload_n 19 C dX12_resolve_18 rfl rfl ?_
        refine x_iload_n 20 C dX12_resolve_19 rfl rfl ?_
        refine x_Vr (As := [_, _]) 23 C vw_X12_209 iw_X12_resolved sw_X12_resolved (c_X12_resolved hM hA hD (by omega) (by assumption)) dX12_resolve_20 rfl rfl rfl rfl rfl rfl hM.1 ⟨Nat.le_of_ble_eq_true rfl, Nat.le_of_ble_eq_true rfl⟩ (Nat.le_of_ble_eq_true rfl) ?_
        refine x_wf (fun hw => ?_)
        refine x_goto 27 C dX12_resolve_23 (by decide) ?_
        exact x_as (congrArg (wR G) (by simp [rRslS, rRslIs, bI, h7, h14])) rfl (by simp [rRslW, rRslIs, bI, h7, h14]) (hJ27 () trivial)
