/-! rows laid by program (wip/tools/gen.py) -/
set_option maxHeartbeats 4000000 in
set_option maxRecDepth 100000 in
theorem c_X12_depth {E : EV} {l : Launch} {G : GT} {R : RT} {o : Nat} {its : Int} (hM : RM G o) (hH : RH R) (h1 : -1 ≤ its ∧ its < R 3 0) : MT E l yX12_depth cX12_depth 4 (some .int) 0 0 0 0 [.ref o, .int (i32 its)] (wR G R) (pD (some (.int (i32 (rDep R its)))) (wR G (R))) := by
  refine mt_of (own := RX12) (L := [some (.ref o), some (.int (i32 its)), none, none]) (by decide +kernel) rfl (Nat.le_of_ble_eq_true rfl) (List.forall_mem_cons.mpr ⟨rfl, (List.forall_mem_cons.mpr ⟨rfl, (fun _ h => absurd h List.not_mem_nil)⟩)⟩) rfl ?_
  intro p e s m args below meth c C hin
  refine x_wf (fun hw => ?_)
  have hr0 : ∀ k j, InR (R k j) := hw.2.2.1
  have hz0 : ∀ k j, mZ k = true → R k j = 0 ∨ R k j = 1 := hw.2.2.2.2.1
  have hh := hH.1
  refine x_iconst 1 C dX12_depth_0 rfl ?_
  refine x_istore_n 2 C dX12_depth_1 rfl rfl rfl ?_
  refine x_iload_n 3 C dX12_depth_2 rfl rfl ?_
  refine x_istore_n 4 C dX12_depth_3 rfl rfl rfl ?_
  refine x_loop (α := Int × Int) (fun ⟨n, k⟩ => (k + 1).toNat) (fun ⟨n, k⟩ => -1 ≤ k ∧ k < R 3 0 ∧ n + rDep R k = rDep R its) (fun ⟨n, k⟩ => wR G R) (fun ⟨n, k⟩ => [some (.ref o), some (.int (i32 its)), some (.int (i32 n)), some (.int (i32 k))]) (fun _ => []) (0, its) ⟨h1.1, h1.2, Int.zero_add _⟩ rfl rfl rfl ?_
  intro aa hI ih
  obtain ⟨n, k⟩ := aa
  (try dsimp only at hI); (try dsimp only at ih); (try dsimp only)
  obtain ⟨i1, i2, i3⟩ := hI
  have hu := hH.2 k.toNat
  have hi := rDep_in R k
  have hi2 := rDep_in R its
  refine x_iload_n 5 C dX12_depth_4 rfl rfl ?_
  refine x_iconst 6 C dX12_depth_5 rfl ?_
  refine x_icmp_eq 9 22 C dX12_depth_6 rfl (by decide) (by first | exact hw.2.2.1 _ _ | exact hr0 _ _ | assumption | omega | exact ⟨by omega, by omega⟩) (by first | exact hw.2.2.1 _ _ | exact hr0 _ _ | assumption | omega | exact ⟨by omega, by omega⟩) (fun h6 => ?_) (fun h6 => ?_)
  · skip
    refine x_iload_n 23 C dX12_depth_22 rfl rfl ?_
    exact x_iret C dX12_depth_23 rfl ⟨vi (by rw [← i3, h6, rDep_top]; omega), rfl⟩
  · skip
    refine x_iinc 12 C dX12_depth_9 rfl rfl rfl rfl ?_
    refine x_aload_n 13 C dX12_depth_12 rfl rfl ?_
    refine x_mrow 16 4 C fr_X12_7 dX12_depth_13 rfl rfl hM ?_
    refine x_iload_n 17 C dX12_depth_16 rfl rfl ?_
    refine x_mldI 18 4 C dX12_depth_17 rfl rfl hM (by first | exact hIx | exact ⟨by omega, Int.lt_of_lt_of_le (b := 16) (by omega) (by decide)⟩) ?_
    refine x_istore_n 19 C dX12_depth_18 rfl rfl rfl ?_
    refine x_goto 4 C dX12_depth_19 (by decide) ?_
    exact ih (_, _) ⟨by dsimp only; omega, by dsimp only; omega, by dsimp only; rw [← i3, rDep_step hH i1 i2 h6]; omega⟩ (by dsimp only; omega)
set_option maxHeartbeats 4000000 in
set_option maxRecDepth 100000 in
theorem c_X12_hostOf {E : EV} {l : Launch} {G : GT} {R : RT} {o : Nat} {a w : Int} (hM : RM G o) (h1 : InR a) (h2 : InR w) (hH : RH R) : MT E l yX12_hostOf cX12_hostOf 5 (some .int) 0 0 0 0 [.ref o, .int (i32 a), .int (i32 w)] (wR G R) (pD (some (.int (i32 (rHostOf R a w (R 3 0).toNat)))) (wR G (R))) := by
  refine mt_of (own := RX12) (L := [some (.ref o), some (.int (i32 a)), some (.int (i32 w)), none, none]) (by decide +kernel) rfl (Nat.le_of_ble_eq_true rfl) (List.forall_mem_cons.mpr ⟨rfl, (List.forall_mem_cons.mpr ⟨rfl, (List.forall_mem_cons.mpr ⟨rfl, (fun _ h => absurd h List.not_mem_nil)⟩)⟩)⟩) rfl ?_
  intro p e s m args below meth c C hin
  refine x_wf (fun hw => ?_)
  have hr0 : ∀ k j, InR (R k j) := hw.2.2.1
  have hz0 : ∀ k j, mZ k = true → R k j = 0 ∨ R k j = 1 := hw.2.2.2.2.1
  have hh := hH.1
  refine x_iconst 1 C dX12_hostOf_0 rfl ?_
  refine x_istore_n 2 C dX12_hostOf_1 rfl rfl rfl ?_
  refine x_iconst 3 C dX12_hostOf_2 rfl ?_
  refine x_istore 5 C dX12_hostOf_3 rfl rfl rfl ?_
  refine x_loop (α := Int × Int) (fun ⟨f, k⟩ => (R 3 0 - k).toNat) (fun ⟨f, k⟩ => 0 ≤ k ∧ k ≤ R 3 0 ∧ f = rHostOf R a w k.toNat) (fun ⟨f, k⟩ => wR G R) (fun ⟨f, k⟩ => [some (.ref o), some (.int (i32 a)), some (.int (i32 w)), some (.int (i32 f)), some (.int (i32 k))]) (fun _ => []) (-1, 0) ⟨by omega, by omega, rfl⟩ rfl rfl rfl ?_
  intro aa hI ih
  obtain ⟨f, k⟩ := aa
  (try dsimp only at hI); (try dsimp only at ih); (try dsimp only)
  obtain ⟨i1, i2, i3⟩ := hI
  refine x_iload 7 C dX12_hostOf_5 rfl rfl ?_
  refine x_aload_n 8 C dX12_hostOf_7 rfl rfl ?_
  refine x_mget 11 3 C fr_X12_165 dX12_hostOf_8 rfl rfl hM ?_
  refine x_icmp_ge 14 49 C dX12_hostOf_11 rfl (by decide) (by first | exact hw.2.2.1 _ _ | exact hr0 _ _ | assumption | omega | exact ⟨by omega, by omega⟩) (by first | exact hw.2.2.1 _ _ | exact hr0 _ _ | assumption | omega | exact ⟨by omega, by omega⟩) (fun h11 => ?_) (fun h11 => ?_)
  · skip
    refine x_iload_n 50 C dX12_hostOf_49 rfl rfl ?_
    exact x_iret C dX12_hostOf_50 rfl ⟨vi (by rw [i3, show k = R 3 0 by omega]), rfl⟩
  · skip
    refine x_joinv 42 (fun v => v = if R 4 k.toNat = a ∧ R 5 k.toNat = w then k else f) ?_ (fun hJ42 => ?_)
    · intro v hJ
      subst hJ
      refine x_istore_n 43 C dX12_hostOf_42 rfl rfl rfl ?_
      refine x_iinc 46 C dX12_hostOf_43 rfl rfl rfl rfl ?_
      refine x_goto 5 C dX12_hostOf_46 (by decide) ?_
      exact ih (if R 4 k.toNat = a ∧ R 5 k.toNat = w then k else f, k + 1) ⟨by dsimp only; omega, by dsimp only; omega, by dsimp only; rw [show (k + 1).toNat = k.toNat + 1 by omega, rHostOf, show ((k.toNat : Nat) : Int) = k by omega, i3]⟩ (by dsimp only; omega)
    · skip
      refine x_aload_n 15 C dX12_hostOf_14 rfl rfl ?_
      refine x_mrow 18 4 C fr_X12_7 dX12_hostOf_15 rfl rfl hM ?_
      refine x_iload 20 C dX12_hostOf_18 rfl rfl ?_
      refine x_mldI 21 4 C dX12_hostOf_20 rfl rfl hM (by first | exact hIx | exact ⟨by omega, Int.lt_of_lt_of_le (b := 16) (by omega) (by decide)⟩) ?_
      refine x_iload_n 22 C dX12_hostOf_21 rfl rfl ?_
      refine x_icmp_ne 25 41 C dX12_hostOf_22 rfl (by decide) (by first | exact hw.2.2.1 _ _ | exact hr0 _ _ | assumption | omega | exact ⟨by omega, by omega⟩) (by first | exact hw.2.2.1 _ _ | exact hr0 _ _ | assumption | omega | exact ⟨by omega, by omega⟩) (fun h22 => ?_) (fun h22 => ?_)
      · skip
        refine x_iload_n 42 C dX12_hostOf_41 rfl rfl ?_
        exact hJ42 _ (by first | (simp [bI, h22]; done) | (simp [bI, h22]; omega) | (simp [bI, h22] at *; omega))
      · skip
        refine x_aload_n 26 C dX12_hostOf_25 rfl rfl ?_
        refine x_mrow 29 5 C fr_X12_13 dX12_hostOf_26 rfl rfl hM ?_
        refine x_iload 31 C dX12_hostOf_29 rfl rfl ?_
        refine x_mldI 32 5 C dX12_hostOf_31 rfl rfl hM (by first | exact hIx | exact ⟨by omega, Int.lt_of_lt_of_le (b := 16) (by omega) (by decide)⟩) ?_
        refine x_iload_n 33 C dX12_hostOf_32 rfl rfl ?_
        refine x_icmp_ne 36 41 C dX12_hostOf_33 rfl (by decide) (by first | exact hw.2.2.1 _ _ | exact hr0 _ _ | assumption | omega | exact ⟨by omega, by omega⟩) (by first | exact hw.2.2.1 _ _ | exact hr0 _ _ | assumption | omega | exact ⟨by omega, by omega⟩) (fun h33 => ?_) (fun h33 => ?_)
        · skip
          refine x_iload_n 42 C dX12_hostOf_41 rfl rfl ?_
          exact hJ42 _ (by first | (simp [bI, h22, h33]; done) | (simp [bI, h22, h33]; omega) | (simp [bI, h22, h33] at *; omega))
        · skip
          refine x_iload 38 C dX12_hostOf_36 rfl rfl ?_
          refine x_goto 42 C dX12_hostOf_38 (by decide) ?_
          exact hJ42 _ (by first | (simp [bI, h22, h33]; done) | (simp [bI, h22, h33]; omega) | (simp [bI, h22, h33] at *; omega))
set_option maxHeartbeats 4000000 in
set_option maxRecDepth 100000 in
theorem c_X12_host {E : EV} {l : Launch} {G : GT} {R : RT} {o : Nat} {a w z : Int} (hM : RM G o) (h1 : InR a) (h2 : InR w) (hH : RH R) : MT E l yX12_host cX12_host 7 (some .int) 2 43 0 0 [.ref o, .int (i32 a), .int (i32 w), .int (i32 z)] (wR G R) (pD (some (.int (i32 (rHost R a w)))) (wR G (rHostR R a w))) := by
  refine mt_of (own := RX12) (L := [some (.ref o), some (.int (i32 a)), some (.int (i32 w)), some (.int (i32 z)), none, none, none]) (by decide +kernel) rfl (Nat.le_of_ble_eq_true rfl) (List.forall_mem_cons.mpr ⟨rfl, (List.forall_mem_cons.mpr ⟨rfl, (List.forall_mem_cons.mpr ⟨rfl, (List.forall_mem_cons.mpr ⟨rfl, (fun _ h => absurd h List.not_mem_nil)⟩)⟩)⟩)⟩) rfl ?_
  intro p e s m args below meth c C hin
  refine x_wf (fun hw => ?_)
  have hr0 : ∀ k j, InR (R k j) := hw.2.2.1
  have hz0 : ∀ k j, mZ k = true → R k j = 0 ∨ R k j = 1 := hw.2.2.2.2.1
  have hh := hH.1
  have hc := rHCode_in R a w
  have hf := rHFound_in hH a w
  have hd := rDep_in R a
  refine x_joinv 18 (fun v => v = bI (rHIs R a)) ?_ (fun hJ18 => ?_)
  · intro v hJ
    subst hJ
    refine x_istore 20 C dX12_host_18 rfl rfl rfl ?_
    refine x_iload_n 21 C dX12_host_20 rfl rfl ?_
    refine x_iconst 22 C dX12_host_21 rfl ?_
    refine x_sipush 25 C dX12_host_22 rfl (by decide) ?_
    refine x_Sr (As := [_, _, _]) 28 C vw_X12_168 tw_X12_lies (c_X12_lies (by first | assumption | omega) (by omega) (by omega)) dX12_host_25 rfl rfl rfl ⟨Nat.le_of_ble_eq_true rfl, Nat.le_of_ble_eq_true rfl⟩ (Nat.le_of_ble_eq_true rfl) ?_
    refine x_istore 30 C dX12_host_28 rfl rfl rfl ?_
    refine x_joinv 50 (fun v => v = rHFound R a w) ?_ (fun hJ50 => ?_)
    · intro v hJ
      subst hJ
      refine x_istore 52 C dX12_host_50 rfl rfl rfl ?_
      refine x_aload_n 53 C dX12_host_52 rfl rfl ?_
      refine x_joinv 100 (fun v => v = rHCode R a w) ?_ (fun hJ100 => ?_)
      · intro v hJ
        subst hJ
        refine x_Vr (As := [_]) 103 C vw_X12_187 iw_X12_fails sw_X12_fails (c_X12_fails hM (by first | assumption | omega | exact ⟨by omega, by omega⟩)) dX12_host_100 rfl rfl rfl rfl rfl rfl hM.1 ⟨Nat.le_of_ble_eq_true rfl, Nat.le_of_ble_eq_true rfl⟩ (Nat.le_of_ble_eq_true rfl) ?_
        refine x_wf (fun hw => ?_)
        refine x_if_eqB 106 108 C dX12_host_103 rfl (by decide) (fun h103 => ?_) (fun h103 => ?_)
        · skip
          replace h103 := of_decide_eq_false h103
          refine x_iload 110 C dX12_host_108 rfl rfl ?_
          refine x_iconst 111 C dX12_host_110 rfl ?_
          refine x_icmp_ne 114 150 C dX12_host_111 rfl (by decide) (by first | exact hw.2.2.1 _ _ | exact hr0 _ _ | assumption | omega | exact ⟨by omega, by omega⟩) (by first | exact hw.2.2.1 _ _ | exact hr0 _ _ | assumption | omega | exact ⟨by omega, by omega⟩) (fun h111 => ?_) (fun h111 => ?_)
          · skip
            refine x_iload 152 C dX12_host_150 rfl rfl ?_
            exact x_iret C dX12_host_152 rfl ⟨vi (by first | rfl | (simp [bI, rHost, h103, h111]; done) | (simp [bI, rHost, h103, h111]; omega)), congrArg (wR G) (by first | rfl | (simp [bI, rHostR, rF, h103, h111]; done) | (simp [bI, rHostR, rF, h103, h111]; omega))⟩
          · skip
            refine x_aload_n 115 C dX12_host_114 rfl rfl ?_
            refine x_mget 118 3 C fr_X12_165 dX12_host_115 rfl rfl hM ?_
            (try simp only [u2r, false_and, and_false, true_and, and_true, ↓reduceIte, Nat.reduceEqDiff])
            have hok := (rHCode_ok (show ¬ 0 < rHCode R a w from h103)).2.2 h111
            refine x_istore 120 C dX12_host_118 rfl rfl rfl ?_
            refine x_aload_n 121 C dX12_host_120 rfl rfl ?_
            refine x_mrow 124 4 C fr_X12_7 dX12_host_121 rfl rfl hM ?_
            refine x_aload_n 125 C dX12_host_124 rfl rfl ?_
            refine x_mget 128 3 C fr_X12_165 dX12_host_125 rfl rfl hM ?_
            (try simp only [u2r, false_and, and_false, true_and, and_true, ↓reduceIte, Nat.reduceEqDiff])
            refine x_iload_n 129 C dX12_host_128 rfl rfl ?_
            refine x_mstI 130 4 C dX12_host_129 rfl rfl hM ⟨by omega, Int.lt_of_lt_of_le (b := 16) (by omega) (by decide)⟩ (by first | exact hw.2.2.1 _ _ | exact hr0 _ _ | assumption | omega | exact ⟨by omega, by omega⟩) ?_
            refine x_wf (fun hw => ?_)
            refine x_aload_n 131 C dX12_host_130 rfl rfl ?_
            refine x_mrow 134 5 C fr_X12_13 dX12_host_131 rfl rfl hM ?_
            refine x_aload_n 135 C dX12_host_134 rfl rfl ?_
            refine x_mget 138 3 C fr_X12_165 dX12_host_135 rfl rfl hM ?_
            (try simp only [u2r, false_and, and_false, true_and, and_true, ↓reduceIte, Nat.reduceEqDiff])
            refine x_iload_n 139 C dX12_host_138 rfl rfl ?_
            refine x_mstI 140 5 C dX12_host_139 rfl rfl hM ⟨by omega, Int.lt_of_lt_of_le (b := 16) (by omega) (by decide)⟩ (by first | exact hw.2.2.1 _ _ | exact hr0 _ _ | assumption | omega | exact ⟨by omega, by omega⟩) ?_
            refine x_wf (fun hw => ?_)
            refine x_aload_n 141 C dX12_host_140 rfl rfl ?_
            refine x_dup 142 C dX12_host_141 rfl rfl ?_
            refine x_mget 145 3 C fr_X12_165 dX12_host_142 rfl rfl hM ?_
            (try simp only [u2r, false_and, and_false, true_and, and_true, ↓reduceIte, Nat.reduceEqDiff])
            refine x_iconst 146 C dX12_host_145 rfl ?_
            refine x_iadd 147 C dX12_host_146 rfl ?_
            refine x_mput 150 3 C fw_X12_165 dX12_host_147 rfl rfl rfl hM (by first | exact hw.2.2.1 _ _ | exact hr0 _ _ | assumption | omega | exact ⟨by omega, by omega⟩) (fun z => absurd z (by decide)) ?_
            refine x_wf (fun hw => ?_)
            refine x_iload 152 C dX12_host_150 rfl rfl ?_
            exact x_iret C dX12_host_152 rfl ⟨vi (by first | rfl | (simp [bI, rHost, h103, h111]; done) | (simp [bI, rHost, h103, h111]; omega)), congrArg (wR G) (by first | rfl | (simp [bI, rHostR, rF, h103, h111]; done) | (simp [bI, rHostR, rF, h103, h111]; omega))⟩
        · skip
          replace h103 := of_decide_eq_true h103
          refine x_iconst 107 C dX12_host_106 rfl ?_
          exact x_iret C dX12_host_107 rfl ⟨vi (by first | rfl | (simp [bI, rHost, h103]; done) | (simp [bI, rHost, h103]; omega)), congrArg (wR G) (by first | rfl | (simp [bI, rHostR, rF, h103]; done) | (simp [bI, rHostR, rF, h103]; omega))⟩
      · skip
        refine x_iload 55 C dX12_host_53 rfl rfl ?_
        refine x_if_neB 58 62 C dX12_host_55 rfl (by decide) (fun h55 => ?_) (fun h55 => ?_)
        · skip
          refine x_iload 64 C dX12_host_62 rfl rfl ?_
          refine x_if_neB 67 71 C dX12_host_64 rfl (by decide) (fun h64 => ?_) (fun h64 => ?_)
          · skip
            refine x_iload 73 C dX12_host_71 rfl rfl ?_
            refine x_iconst 74 C dX12_host_73 rfl ?_
            refine x_icmp_ne 77 99 C dX12_host_74 rfl (by decide) (by first | exact hw.2.2.1 _ _ | exact hr0 _ _ | assumption | omega | exact ⟨by omega, by omega⟩) (by first | exact hw.2.2.1 _ _ | exact hr0 _ _ | assumption | omega | exact ⟨by omega, by omega⟩) (fun h74 => ?_) (fun h74 => ?_)
            · skip
              refine x_iconst 100 C dX12_host_99 rfl ?_
              exact hJ100 _ (by first | (simp [bI, rHCode, h55, h64, h74]; done) | (simp [bI, rHCode, h55, h64, h74]; omega) | (simp [bI, rHCode, h55, h64, h74] at *; omega))
            · skip
              refine x_aload_n 78 C dX12_host_77 rfl rfl ?_
              refine x_mget 81 3 C fr_X12_165 dX12_host_78 rfl rfl hM ?_
              refine x_bipush 83 C dX12_host_81 rfl (by decide) ?_
              refine x_icmp_eq 86 95 C dX12_host_83 rfl (by decide) (by first | exact hw.2.2.1 _ _ | exact hr0 _ _ | assumption | omega | exact ⟨by omega, by omega⟩) (by first | exact hw.2.2.1 _ _ | exact hr0 _ _ | assumption | omega | exact ⟨by omega, by omega⟩) (fun h83 => ?_) (fun h83 => ?_)
              · skip
                refine x_iconst 96 C dX12_host_95 rfl ?_
                refine x_goto 100 C dX12_host_96 (by decide) ?_
                exact hJ100 _ (by first | (simp [bI, rHCode, h55, h64, h74, h83]; done) | (simp [bI, rHCode, h55, h64, h74, h83]; omega) | (simp [bI, rHCode, h55, h64, h74, h83] at *; omega))
              · skip
                refine x_aload_n 87 C dX12_host_86 rfl rfl ?_
                refine x_iload_n 88 C dX12_host_87 rfl rfl ?_
                refine x_Vr (As := [_]) 91 C vw_X12_183 iw_X12_depth sw_X12_depth (c_X12_depth hM hH (rHIs_in hH h55)) dX12_host_88 rfl rfl rfl rfl rfl rfl hM.1 ⟨Nat.le_of_ble_eq_true rfl, Nat.le_of_ble_eq_true rfl⟩ (Nat.le_of_ble_eq_true rfl) ?_
                refine x_iconst 92 C dX12_host_91 rfl ?_
                refine x_icmp_le 95 99 C dX12_host_92 rfl (by decide) (by first | exact hw.2.2.1 _ _ | exact hr0 _ _ | assumption | omega | exact ⟨by omega, by omega⟩) (by first | exact hw.2.2.1 _ _ | exact hr0 _ _ | assumption | omega | exact ⟨by omega, by omega⟩) (fun h92 => ?_) (fun h92 => ?_)
                · skip
                  refine x_iconst 100 C dX12_host_99 rfl ?_
                  exact hJ100 _ (by first | (simp [bI, rHCode, h55, h64, h74, h83, h92]; done) | (simp [bI, rHCode, h55, h64, h74, h83, h92]; omega) | (simp [bI, rHCode, h55, h64, h74, h83, h92] at *; omega))
                · skip
                  refine x_iconst 96 C dX12_host_95 rfl ?_
                  refine x_goto 100 C dX12_host_96 (by decide) ?_
                  exact hJ100 _ (by first | (simp [bI, rHCode, h55, h64, h74, h83, h92]; done) | (simp [bI, rHCode, h55, h64, h74, h83, h92]; omega) | (simp [bI, rHCode, h55, h64, h74, h83, h92] at *; omega))
          · skip
            refine x_iconst 68 C dX12_host_67 rfl ?_
            refine x_goto 100 C dX12_host_68 (by decide) ?_
            exact hJ100 _ (by first | (simp [bI, rHCode, h55, h64]; done) | (simp [bI, rHCode, h55, h64]; omega) | (simp [bI, rHCode, h55, h64] at *; omega))
        · skip
          refine x_iconst 59 C dX12_host_58 rfl ?_
          refine x_goto 100 C dX12_host_59 (by decide) ?_
          exact hJ100 _ (by first | (simp [bI, rHCode, h55]; done) | (simp [bI, rHCode, h55]; omega) | (simp [bI, rHCode, h55] at *; omega))
    · skip
      refine x_iload 32 C dX12_host_30 rfl rfl ?_
      refine x_if_eqB 35 49 C dX12_host_32 rfl (by decide) (fun h32 => ?_) (fun h32 => ?_)
      · skip
        refine x_iconst 50 C dX12_host_49 rfl ?_
        exact hJ50 _ (by first | (simp [bI, rHFound, h32]; done) | (simp [bI, rHFound, h32]; omega) | (simp [bI, rHFound, h32] at *; omega))
      · skip
        refine x_iload 37 C dX12_host_35 rfl rfl ?_
        refine x_if_eqB 40 49 C dX12_host_37 rfl (by decide) (fun h37 => ?_) (fun h37 => ?_)
        · skip
          refine x_iconst 50 C dX12_host_49 rfl ?_
          exact hJ50 _ (by first | (simp [bI, rHFound, h32, h37]; done) | (simp [bI, rHFound, h32, h37]; omega) | (simp [bI, rHFound, h32, h37] at *; omega))
        · skip
          refine x_aload_n 41 C dX12_host_40 rfl rfl ?_
          refine x_iload_n 42 C dX12_host_41 rfl rfl ?_
          refine x_iload_n 43 C dX12_host_42 rfl rfl ?_
          refine x_Vr (As := [_, _]) 46 C vw_X12_179 iw_X12_hostOf sw_X12_hostOf (c_X12_hostOf hM (by assumption) (by assumption) hH) dX12_host_43 rfl rfl rfl rfl rfl rfl hM.1 ⟨Nat.le_of_ble_eq_true rfl, Nat.le_of_ble_eq_true rfl⟩ (Nat.le_of_ble_eq_true rfl) ?_
          refine x_goto 50 C dX12_host_46 (by decide) ?_
          exact hJ50 _ (by first | (simp [bI, rHFound, h32, h37]; done) | (simp [bI, rHFound, h32, h37]; omega) | (simp [bI, rHFound, h32, h37] at *; omega))
  · skip
    refine x_iload_n 1 C dX12_host_0 rfl rfl ?_
    refine x_iconst 2 C dX12_host_1 rfl ?_
    refine x_icmp_eq 5 13 C dX12_host_2 rfl (by decide) (by first | exact hw.2.2.1 _ _ | exact hr0 _ _ | assumption | omega | exact ⟨by omega, by omega⟩) (by first | exact hw.2.2.1 _ _ | exact hr0 _ _ | assumption | omega | exact ⟨by omega, by omega⟩) (fun h2 => ?_) (fun h2 => ?_)
    · skip
      refine x_iconst 14 C dX12_host_13 rfl ?_
      refine x_goto 18 C dX12_host_14 (by decide) ?_
      exact hJ18 _ (by first | (simp [bI, rHIs, h2]; done) | (simp [bI, rHIs, h2]; omega) | (simp [bI, rHIs, h2] at *; omega))
    · skip
      refine x_aload_n 6 C dX12_host_5 rfl rfl ?_
      refine x_iload_n 7 C dX12_host_6 rfl rfl ?_
      refine x_Vr (As := [_]) 10 C vw_X12_175 iw_X12_isHost sw_X12_isHost (c_X12_isHost hM (by assumption) hH) dX12_host_7 rfl rfl rfl rfl rfl rfl hM.1 ⟨Nat.le_of_ble_eq_true rfl, Nat.le_of_ble_eq_true rfl⟩ (Nat.le_of_ble_eq_true rfl) ?_
      refine x_if_eqB 13 17 C dX12_host_10 rfl (by decide) (fun h10 => ?_) (fun h10 => ?_)
      · skip
        refine x_iconst 18 C dX12_host_17 rfl ?_
        exact hJ18 _ (by first | (simp [bI, rHIs, h2, h10]; done) | (simp [bI, rHIs, h2, h10]; omega) | (simp [bI, rHIs, h2, h10] at *; omega))
      · skip
        refine x_iconst 14 C dX12_host_13 rfl ?_
        refine x_goto 18 C dX12_host_14 (by decide) ?_
        exact hJ18 _ (by first | (simp [bI, rHIs, h2, h10]; done) | (simp [bI, rHIs, h2, h10]; omega) | (simp [bI, rHIs, h2, h10] at *; omega))
set_option maxHeartbeats 4000000 in
set_option maxRecDepth 100000 in
theorem c_X12_toggleSuffix {E : EV} {l : Launch} {G : GT} {R : RT} {o : Nat} {x : Int} (hM : RM G o) (h1 : InR x) (hH : RH R) : MT E l yX12_toggleSuffix cX12_toggleSuffix 2 (some .boolean) 2 43 0 0 [.ref o, .int (i32 x)] (wR G R) (pD (some (.int (i32 (rTog R x)))) (wR G (rTogR R x))) := by
  refine mt_of (own := RX12) (L := [some (.ref o), some (.int (i32 x))]) (by decide +kernel) rfl (Nat.le_of_ble_eq_true rfl) (List.forall_mem_cons.mpr ⟨rfl, (List.forall_mem_cons.mpr ⟨rfl, (fun _ h => absurd h List.not_mem_nil)⟩)⟩) rfl ?_
  intro p e s m args below meth c C hin
  refine x_wf (fun hw => ?_)
  have hr0 : ∀ k j, InR (R k j) := hw.2.2.1
  have hz0 : ∀ k j, mZ k = true → R k j = 0 ∨ R k j = 1 := hw.2.2.2.2.1
  have hh := hH.1
  have hc : 0 ≤ rTogC R x ∧ rTogC R x ≤ 3 := by unfold rTogC; (repeat (first | omega | split))
  refine x_aload_n 1 C dX12_toggleSuffix_0 rfl rfl ?_
  refine x_joinv 14 (fun v => v = rTogC R x) ?_ (fun hJ14 => ?_)
  · intro v hJ
    subst hJ
    refine x_Vr (As := [_]) 17 C vw_X12_187 iw_X12_fails sw_X12_fails (c_X12_fails hM (by first | assumption | omega | exact ⟨by omega, by omega⟩)) dX12_toggleSuffix_14 rfl rfl rfl rfl rfl rfl hM.1 ⟨Nat.le_of_ble_eq_true rfl, Nat.le_of_ble_eq_true rfl⟩ (Nat.le_of_ble_eq_true rfl) ?_
    refine x_wf (fun hw => ?_)
    refine x_if_eqB 20 22 C dX12_toggleSuffix_17 rfl (by decide) (fun h17 => ?_) (fun h17 => ?_)
    · skip
      replace h17 := of_decide_eq_false h17
      have hq_rIsHostRx : rIsHost R x = true := by (by_cases q : rIsHost R x = true; exact q; exact absurd (show 0 < rTogC R x by simp [rTogC, q]) h17)
      have hx := rLies_t.mp hq_rIsHostRx
      refine x_aload_n 23 C dX12_toggleSuffix_22 rfl rfl ?_
      refine x_mrow 26 6 C fr_X12_16 dX12_toggleSuffix_23 rfl rfl hM ?_
      refine x_iload_n 27 C dX12_toggleSuffix_26 rfl rfl ?_
      refine x_joinv 41 (fun v => v = if R 6 x.toNat = 0 then 1 else 0) ?_ (fun hJ41 => ?_)
      · intro v hJ
        subst hJ
        have e1 : (if R 6 x.toNat = 0 then (1:Int) else 0) = 0 ∨ (if R 6 x.toNat = 0 then (1:Int) else 0) = 1 := by split <;> omega
        refine x_mstZ 42 6 C dX12_toggleSuffix_41 rfl rfl hM ⟨by omega, Int.lt_of_lt_of_le (b := 16) (by omega) (by decide)⟩ (by first | assumption | omega | exact bI_01 _ | exact hw.2.2.2.2.1 _ _ rfl | exact hz0 _ _ rfl) ?_
        refine x_wf (fun hw => ?_)
        refine x_aload_n 43 C dX12_toggleSuffix_42 rfl rfl ?_
        refine x_mrow 46 6 C fr_X12_16 dX12_toggleSuffix_43 rfl rfl hM ?_
        refine x_iload_n 47 C dX12_toggleSuffix_46 rfl rfl ?_
        refine x_mldZ 48 6 C dX12_toggleSuffix_47 rfl rfl hM (by first | exact hIx | exact ⟨by omega, Int.lt_of_lt_of_le (b := 16) (by omega) (by decide)⟩) ?_
        (try simp only [u2r, false_and, and_false, true_and, and_true, ↓reduceIte, Nat.reduceEqDiff])
        (try simp only [u2r, and_self, ↓reduceIte])
        exact x_iret C dX12_toggleSuffix_48 (nar_01 (by split <;> omega)) ⟨vi (by first | rfl | (simp [bI, rTog, u2r, h17]; done) | (simp [bI, rTog, u2r, h17]; omega)), congrArg (wR G) (by first | rfl | (simp [bI, rTogR, rF, h17]; done) | (simp [bI, rTogR, rF, h17]; omega))⟩
      · skip
        refine x_aload_n 28 C dX12_toggleSuffix_27 rfl rfl ?_
        refine x_mrow 31 6 C fr_X12_16 dX12_toggleSuffix_28 rfl rfl hM ?_
        refine x_iload_n 32 C dX12_toggleSuffix_31 rfl rfl ?_
        refine x_mldZ 33 6 C dX12_toggleSuffix_32 rfl rfl hM (by first | exact hIx | exact ⟨by omega, Int.lt_of_lt_of_le (b := 16) (by omega) (by decide)⟩) ?_
        (try simp only [u2r, false_and, and_false, true_and, and_true, ↓reduceIte, Nat.reduceEqDiff])
        refine x_if_ne 36 40 C dX12_toggleSuffix_33 rfl (by decide) (by first | exact hw.2.2.1 _ _ | exact hr0 _ _ | assumption | omega | exact ⟨by omega, by omega⟩) (fun h33 => ?_) (fun h33 => ?_)
        · skip
          refine x_iconst 41 C dX12_toggleSuffix_40 rfl ?_
          exact hJ41 _ (by first | (simp [bI, h33]; done) | (simp [bI, h33]; omega) | (simp [bI, h33] at *; omega))
        · skip
          refine x_iconst 37 C dX12_toggleSuffix_36 rfl ?_
          refine x_goto 41 C dX12_toggleSuffix_37 (by decide) ?_
          exact hJ41 _ (by first | (simp [bI, h33]; done) | (simp [bI, h33]; omega) | (simp [bI, h33] at *; omega))
    · skip
      replace h17 := of_decide_eq_true h17
      refine x_iconst 21 C dX12_toggleSuffix_20 rfl ?_
      exact x_iret C dX12_toggleSuffix_21 (by first | rfl | exact nar_b _ | exact nar_01 (by first | assumption | omega | exact hw.2.2.2.2.1 _ _ rfl | exact hz0 _ _ rfl)) ⟨vi (by first | rfl | (simp [bI, rTog, u2r, h17]; done) | (simp [bI, rTog, u2r, h17]; omega)), congrArg (wR G) (by first | rfl | (simp [bI, rTogR, rF, h17]; done) | (simp [bI, rTogR, rF, h17]; omega))⟩
  · skip
    refine x_aload_n 2 C dX12_toggleSuffix_1 rfl rfl ?_
    refine x_iload_n 3 C dX12_toggleSuffix_2 rfl rfl ?_
    refine x_Vr (As := [_]) 6 C vw_X12_175 iw_X12_isHost sw_X12_isHost (c_X12_isHost hM (by assumption) hH) dX12_toggleSuffix_3 rfl rfl rfl rfl rfl rfl hM.1 ⟨Nat.le_of_ble_eq_true rfl, Nat.le_of_ble_eq_true rfl⟩ (Nat.le_of_ble_eq_true rfl) ?_
    refine x_if_eqB 9 13 C dX12_toggleSuffix_6 rfl (by decide) (fun h6 => ?_) (fun h6 => ?_)
    · skip
      refine x_iconst 14 C dX12_toggleSuffix_13 rfl ?_
      exact hJ14 _ (by first | (simp [bI, rTogC, h6]; done) | (simp [bI, rTogC, h6]; omega) | (simp [bI, rTogC, h6] at *; omega))
    · skip
      refine x_iconst 10 C dX12_toggleSuffix_9 rfl ?_
      refine x_goto 14 C dX12_toggleSuffix_10 (by decide) ?_
      exact hJ14 _ (by first | (simp [bI, rTogC, h6]; done) | (simp [bI, rTogC, h6]; omega) | (simp [bI, rTogC, h6] at *; omega))
set_option maxHeartbeats 4000000 in
set_option maxRecDepth 100000 in
theorem c_X12_site {E : EV} {l : Launch} {G : GT} {R : RT} {o : Nat} {x : Int} (hM : RM G o) (h1 : InR x) (hH : RH R) : MT E l yX12_site cX12_site 2 (some .int) 2 43 0 0 [.ref o, .int (i32 x)] (wR G R) (pD (some (.int (i32 (rSite R x)))) (wR G (rF R (rTogC R x)))) := by
  refine mt_of (own := RX12) (L := [some (.ref o), some (.int (i32 x))]) (by decide +kernel) rfl (Nat.le_of_ble_eq_true rfl) (List.forall_mem_cons.mpr ⟨rfl, (List.forall_mem_cons.mpr ⟨rfl, (fun _ h => absurd h List.not_mem_nil)⟩)⟩) rfl ?_
  intro p e s m args below meth c C hin
  refine x_wf (fun hw => ?_)
  have hr0 : ∀ k j, InR (R k j) := hw.2.2.1
  have hz0 : ∀ k j, mZ k = true → R k j = 0 ∨ R k j = 1 := hw.2.2.2.2.1
  have hh := hH.1
  have hc : 0 ≤ rTogC R x ∧ rTogC R x ≤ 3 := by unfold rTogC; (repeat (first | omega | split))
  refine x_aload_n 1 C dX12_site_0 rfl rfl ?_
  refine x_joinv 14 (fun v => v = rTogC R x) ?_ (fun hJ14 => ?_)
  · intro v hJ
    subst hJ
    refine x_Vr (As := [_]) 17 C vw_X12_187 iw_X12_fails sw_X12_fails (c_X12_fails hM (by first | assumption | omega | exact ⟨by omega, by omega⟩)) dX12_site_14 rfl rfl rfl rfl rfl rfl hM.1 ⟨Nat.le_of_ble_eq_true rfl, Nat.le_of_ble_eq_true rfl⟩ (Nat.le_of_ble_eq_true rfl) ?_
    refine x_wf (fun hw => ?_)
    refine x_if_eqB 20 24 C dX12_site_17 rfl (by decide) (fun h17 => ?_) (fun h17 => ?_)
    · skip
      replace h17 := of_decide_eq_false h17
      have hq_rIsHostRx : rIsHost R x = true := by (by_cases q : rIsHost R x = true; exact q; exact absurd (show 0 < rTogC R x by simp [rTogC, q]) h17)
      have hx := rLies_t.mp hq_rIsHostRx
      refine x_aload_n 25 C dX12_site_24 rfl rfl ?_
      refine x_iload_n 26 C dX12_site_25 rfl rfl ?_
      refine x_Vr (As := [_]) 29 C vw_X12_190 iw_X12_siteOf sw_X12_siteOf (c_X12_siteOf (R := u2 R 71 0 (rTogC R x)) hM hH ⟨hx.1, show x < R 3 0 by omega⟩) dX12_site_26 rfl rfl rfl rfl rfl rfl hM.1 ⟨Nat.le_of_ble_eq_true rfl, Nat.le_of_ble_eq_true rfl⟩ (Nat.le_of_ble_eq_true rfl) ?_
      exact x_iret C dX12_site_29 rfl ⟨vi (by first | rfl | (simp [bI, rSite, rSiteOf_F, h17]; done) | (simp [bI, rSite, rSiteOf_F, h17]; omega)), rfl⟩
    · skip
      replace h17 := of_decide_eq_true h17
      refine x_iconst 21 C dX12_site_20 rfl ?_
      refine x_goto 29 C dX12_site_21 (by decide) ?_
      exact x_iret C dX12_site_29 rfl ⟨vi (by first | rfl | (simp [bI, rSite, rSiteOf_F, h17]; done) | (simp [bI, rSite, rSiteOf_F, h17]; omega)), rfl⟩
  · skip
    refine x_aload_n 2 C dX12_site_1 rfl rfl ?_
    refine x_iload_n 3 C dX12_site_2 rfl rfl ?_
    refine x_Vr (As := [_]) 6 C vw_X12_175 iw_X12_isHost sw_X12_isHost (c_X12_isHost hM (by assumption) hH) dX12_site_3 rfl rfl rfl rfl rfl rfl hM.1 ⟨Nat.le_of_ble_eq_true rfl, Nat.le_of_ble_eq_true rfl⟩ (Nat.le_of_ble_eq_true rfl) ?_
    refine x_if_eqB 9 13 C dX12_site_6 rfl (by decide) (fun h6 => ?_) (fun h6 => ?_)
    · skip
      refine x_iconst 14 C dX12_site_13 rfl ?_
      exact hJ14 _ (by first | (simp [bI, rTogC, h6]; done) | (simp [bI, rTogC, h6]; omega) | (simp [bI, rTogC, h6] at *; omega))
    · skip
      refine x_iconst 10 C dX12_site_9 rfl ?_
      refine x_goto 14 C dX12_site_10 (by decide) ?_
      exact hJ14 _ (by first | (simp [bI, rTogC, h6]; done) | (simp [bI, rTogC, h6]; omega) | (simp [bI, rTogC, h6] at *; omega))
set_option maxHeartbeats 4000000 in
set_option maxRecDepth 100000 in
theorem c_X12_isIn {E : EV} {l : Launch} {G : GT} {R : RT} {o : Nat} {a q : Int} (hM : RM G o) (hH : RH R) (h1 : -1 ≤ a ∧ a < R 3 0) (h2 : InR q) : MT E l yX12_isIn cX12_isIn 4 (some .boolean) 0 0 0 0 [.ref o, .int (i32 a), .int (i32 q)] (wR G R) (pD (some (.int (i32 (bI (rIn R a q))))) (wR G (R))) := by
  refine mt_of (own := RX12) (L := [some (.ref o), some (.int (i32 a)), some (.int (i32 q)), none]) (by decide +kernel) rfl (Nat.le_of_ble_eq_true rfl) (List.forall_mem_cons.mpr ⟨rfl, (List.forall_mem_cons.mpr ⟨rfl, (List.forall_mem_cons.mpr ⟨rfl, (fun _ h => absurd h List.not_mem_nil)⟩)⟩)⟩) rfl ?_
  intro p e s m args below meth c C hin
  refine x_wf (fun hw => ?_)
  have hr0 : ∀ k j, InR (R k j) := hw.2.2.1
  have hz0 : ∀ k j, mZ k = true → R k j = 0 ∨ R k j = 1 := hw.2.2.2.2.1
  have hh := hH.1
  refine x_iload_n 1 C dX12_isIn_0 rfl rfl ?_
  refine x_istore_n 2 C dX12_isIn_1 rfl rfl rfl ?_
  refine x_loop (α := Int) (fun k => (k + 1).toNat) (fun k => -1 ≤ k ∧ k < R 3 0 ∧ rIn R k q = rIn R a q) (fun k => wR G R) (fun k => [some (.ref o), some (.int (i32 a)), some (.int (i32 q)), some (.int (i32 k))]) (fun _ => []) a ⟨h1.1, h1.2, rfl⟩ rfl rfl rfl ?_
  intro aa hI ih
  obtain ⟨k, rfl⟩ := (⟨aa, rfl⟩ : ∃ z, z = aa)
  (try dsimp only at hI); (try dsimp only at ih); (try dsimp only)
  obtain ⟨i1, i2, i3⟩ := hI
  have hu := hH.2 k.toNat
  refine x_iload_n 3 C dX12_isIn_2 rfl rfl ?_
  refine x_iconst 4 C dX12_isIn_3 rfl ?_
  refine x_icmp_eq 7 22 C dX12_isIn_4 rfl (by decide) (by first | exact hw.2.2.1 _ _ | exact hr0 _ _ | assumption | omega | exact ⟨by omega, by omega⟩) (by first | exact hw.2.2.1 _ _ | exact hr0 _ _ | assumption | omega | exact ⟨by omega, by omega⟩) (fun h4 => ?_) (fun h4 => ?_)
  · skip
    refine x_iload_n 23 C dX12_isIn_22 rfl rfl ?_
    refine x_iload_n 24 C dX12_isIn_23 rfl rfl ?_
    refine x_icmp_ne 27 31 C dX12_isIn_24 rfl (by decide) (by first | exact hw.2.2.1 _ _ | exact hr0 _ _ | assumption | omega | exact ⟨by omega, by omega⟩) (by first | exact hw.2.2.1 _ _ | exact hr0 _ _ | assumption | omega | exact ⟨by omega, by omega⟩) (fun h24 => ?_) (fun h24 => ?_)
    · skip
      refine x_iconst 32 C dX12_isIn_31 rfl ?_
      exact x_iret C dX12_isIn_32 (by first | rfl | exact nar_b _ | exact nar_01 (by first | assumption | omega | exact hw.2.2.2.2.1 _ _ rfl | exact hz0 _ _ rfl)) ⟨vi (by rw [← i3]; first | (rw [rIn_stop (Or.inl h4)]; simp [bI, h24]; done) | (rw [rIn_stop (Or.inr h9)]; simp [bI, h24]; done) | (rw [rIn_stop (Or.inl h4)]; simp [bI, h24]; omega)), rfl⟩
    · skip
      refine x_iconst 28 C dX12_isIn_27 rfl ?_
      refine x_goto 32 C dX12_isIn_28 (by decide) ?_
      exact x_iret C dX12_isIn_32 (by first | rfl | exact nar_b _ | exact nar_01 (by first | assumption | omega | exact hw.2.2.2.2.1 _ _ rfl | exact hz0 _ _ rfl)) ⟨vi (by rw [← i3]; first | (rw [rIn_stop (Or.inl h4)]; simp [bI, h24]; done) | (rw [rIn_stop (Or.inr h9)]; simp [bI, h24]; done) | (rw [rIn_stop (Or.inl h4)]; simp [bI, h24]; omega)), rfl⟩
  · skip
    refine x_iload_n 8 C dX12_isIn_7 rfl rfl ?_
    refine x_iload_n 9 C dX12_isIn_8 rfl rfl ?_
    refine x_icmp_eq 12 22 C dX12_isIn_9 rfl (by decide) (by first | exact hw.2.2.1 _ _ | exact hr0 _ _ | assumption | omega | exact ⟨by omega, by omega⟩) (by first | exact hw.2.2.1 _ _ | exact hr0 _ _ | assumption | omega | exact ⟨by omega, by omega⟩) (fun h9 => ?_) (fun h9 => ?_)
    · skip
      refine x_iload_n 23 C dX12_isIn_22 rfl rfl ?_
      refine x_iload_n 24 C dX12_isIn_23 rfl rfl ?_
      refine x_icmp_ne 27 31 C dX12_isIn_24 rfl (by decide) (by first | exact hw.2.2.1 _ _ | exact hr0 _ _ | assumption | omega | exact ⟨by omega, by omega⟩) (by first | exact hw.2.2.1 _ _ | exact hr0 _ _ | assumption | omega | exact ⟨by omega, by omega⟩) (fun h24 => ?_) (fun h24 => ?_)
      · skip
        refine x_iconst 32 C dX12_isIn_31 rfl ?_
        exact x_iret C dX12_isIn_32 (by first | rfl | exact nar_b _ | exact nar_01 (by first | assumption | omega | exact hw.2.2.2.2.1 _ _ rfl | exact hz0 _ _ rfl)) ⟨vi (by rw [← i3]; first | (rw [rIn_stop (Or.inl h4)]; simp [bI, h24]; done) | (rw [rIn_stop (Or.inr h9)]; simp [bI, h24]; done) | (rw [rIn_stop (Or.inl h4)]; simp [bI, h24]; omega)), rfl⟩
      · skip
        refine x_iconst 28 C dX12_isIn_27 rfl ?_
        refine x_goto 32 C dX12_isIn_28 (by decide) ?_
        exact x_iret C dX12_isIn_32 (by first | rfl | exact nar_b _ | exact nar_01 (by first | assumption | omega | exact hw.2.2.2.2.1 _ _ rfl | exact hz0 _ _ rfl)) ⟨vi (by rw [← i3]; first | (rw [rIn_stop (Or.inl h4)]; simp [bI, h24]; done) | (rw [rIn_stop (Or.inr h9)]; simp [bI, h24]; done) | (rw [rIn_stop (Or.inl h4)]; simp [bI, h24]; omega)), rfl⟩
    · skip
      refine x_aload_n 13 C dX12_isIn_12 rfl rfl ?_
      refine x_mrow 16 4 C fr_X12_7 dX12_isIn_13 rfl rfl hM ?_
      refine x_iload_n 17 C dX12_isIn_16 rfl rfl ?_
      refine x_mldI 18 4 C dX12_isIn_17 rfl rfl hM (by first | exact hIx | exact ⟨by omega, Int.lt_of_lt_of_le (b := 16) (by omega) (by decide)⟩) ?_
      refine x_istore_n 19 C dX12_isIn_18 rfl rfl rfl ?_
      refine x_goto 2 C dX12_isIn_19 (by decide) ?_
      exact ih (R 4 k.toNat) ⟨by omega, by omega, by rw [← i3]; exact (rIn_step hH i1 i2 h4 h9).symm⟩ (by omega)
set_option maxHeartbeats 4000000 in
set_option maxRecDepth 100000 in
theorem c_X12_isPath {E : EV} {l : Launch} {G : GT} {R : RT} {x : Int} (h1 : InR x) : MT E l yX12_isPath cX12_isPath 1 (some .boolean) 1 22 0 0 [.int (i32 x)] (wR G R) (pD (some (.int (i32 (bI (rIsPath x))))) (wR G (R))) := by
  refine mt_of (own := RX12) (L := [some (.int (i32 x))]) (by decide +kernel) rfl (Nat.le_of_ble_eq_true rfl) (List.forall_mem_cons.mpr ⟨rfl, (fun _ h => absurd h List.not_mem_nil)⟩) rfl ?_
  intro p e s m args below meth c C hin
  refine x_wf (fun hw => ?_)
  have hr0 : ∀ k j, InR (R k j) := hw.2.2.1
  have hz0 : ∀ k j, mZ k = true → R k j = 0 ∨ R k j = 1 := hw.2.2.2.2.1
  refine x_iload_n 1 C dX12_isPath_0 rfl rfl ?_
  refine x_if_eq 4 38 C dX12_isPath_1 rfl (by decide) (by first | exact hw.2.2.1 _ _ | exact hr0 _ _ | assumption | omega | exact ⟨by omega, by omega⟩) (fun h1 => ?_) (fun h1 => ?_)
  · skip
    refine x_iconst 39 C dX12_isPath_38 rfl ?_
    refine x_goto 43 C dX12_isPath_39 (by decide) ?_
    exact x_iret C dX12_isPath_43 (by first | rfl | exact nar_b _ | exact nar_01 (by first | assumption | omega | exact hw.2.2.2.2.1 _ _ rfl | exact hz0 _ _ rfl)) ⟨vi (by first | rfl | (simp [bI, rIsPath, h1]; done) | (simp [bI, rIsPath, h1]; omega)), rfl⟩
  · skip
    refine x_iload_n 5 C dX12_isPath_4 rfl rfl ?_
    refine x_iconst 6 C dX12_isPath_5 rfl ?_
    refine x_sipush 9 C dX12_isPath_6 rfl (by decide) ?_
    refine x_Sr (As := [_, _, _]) 12 C vw_X12_168 tw_X12_lies (c_X12_lies (by first | assumption | omega) (by omega) (by omega)) dX12_isPath_9 rfl rfl rfl ⟨Nat.le_of_ble_eq_true rfl, Nat.le_of_ble_eq_true rfl⟩ (Nat.le_of_ble_eq_true rfl) ?_
    refine x_if_eqB 15 42 C dX12_isPath_12 rfl (by decide) (fun h12 => ?_) (fun h12 => ?_)
    · skip
      refine x_iconst 43 C dX12_isPath_42 rfl ?_
      exact x_iret C dX12_isPath_43 (by first | rfl | exact nar_b _ | exact nar_01 (by first | assumption | omega | exact hw.2.2.2.2.1 _ _ rfl | exact hz0 _ _ rfl)) ⟨vi (by first | rfl | (simp [bI, rIsPath, h1, h12]; done) | (simp [bI, rIsPath, h1, h12]; omega)), rfl⟩
    · skip
      have hx := rLies_t.mp h12
      refine x_iload_n 16 C dX12_isPath_15 rfl rfl ?_
      refine x_bipush 18 C dX12_isPath_16 rfl (by decide) ?_
      refine x_irem 19 C dX12_isPath_18 rfl (by omega) ?_
      refine x_if_le 22 42 C dX12_isPath_19 rfl (by decide) (by first | exact hw.2.2.1 _ _ | exact hr0 _ _ | assumption | omega | exact ⟨by omega, by omega⟩) (fun h19 => ?_) (fun h19 => ?_)
      · skip
        refine x_iconst 43 C dX12_isPath_42 rfl ?_
        exact x_iret C dX12_isPath_43 (by first | rfl | exact nar_b _ | exact nar_01 (by first | assumption | omega | exact hw.2.2.2.2.1 _ _ rfl | exact hz0 _ _ rfl)) ⟨vi (by first | rfl | (simp [bI, rIsPath, h1, h12, h19]; done) | (simp [bI, rIsPath, h1, h12, h19]; omega)), rfl⟩
      · skip
        refine x_iload_n 23 C dX12_isPath_22 rfl rfl ?_
        refine x_bipush 25 C dX12_isPath_23 rfl (by decide) ?_
        refine x_icmp_lt 28 38 C dX12_isPath_25 rfl (by decide) (by first | exact hw.2.2.1 _ _ | exact hr0 _ _ | assumption | omega | exact ⟨by omega, by omega⟩) (by first | exact hw.2.2.1 _ _ | exact hr0 _ _ | assumption | omega | exact ⟨by omega, by omega⟩) (fun h25 => ?_) (fun h25 => ?_)
        · skip
          refine x_iconst 39 C dX12_isPath_38 rfl ?_
          refine x_goto 43 C dX12_isPath_39 (by decide) ?_
          exact x_iret C dX12_isPath_43 (by first | rfl | exact nar_b _ | exact nar_01 (by first | assumption | omega | exact hw.2.2.2.2.1 _ _ rfl | exact hz0 _ _ rfl)) ⟨vi (by first | rfl | (simp [bI, rIsPath, h1, h12, h19, h25]; done) | (simp [bI, rIsPath, h1, h12, h19, h25]; omega)), rfl⟩
        · skip
          refine x_iload_n 29 C dX12_isPath_28 rfl rfl ?_
          refine x_bipush 31 C dX12_isPath_29 rfl (by decide) ?_
          refine x_idiv 32 C dX12_isPath_31 rfl (by omega) ?_
          refine x_bipush 34 C dX12_isPath_32 rfl (by decide) ?_
          refine x_irem 35 C dX12_isPath_34 rfl (by omega) ?_
          refine x_if_le 38 42 C dX12_isPath_35 rfl (by decide) (by first | exact hw.2.2.1 _ _ | exact hr0 _ _ | assumption | omega | exact ⟨by omega, by omega⟩) (fun h35 => ?_) (fun h35 => ?_)
          · skip
            refine x_iconst 43 C dX12_isPath_42 rfl ?_
            exact x_iret C dX12_isPath_43 (by first | rfl | exact nar_b _ | exact nar_01 (by first | assumption | omega | exact hw.2.2.2.2.1 _ _ rfl | exact hz0 _ _ rfl)) ⟨vi (by first | rfl | (simp [bI, rIsPath, h1, h12, h19, h25, h35]; done) | (simp [bI, rIsPath, h1, h12, h19, h25, h35]; omega)), rfl⟩
          · skip
            refine x_iconst 39 C dX12_isPath_38 rfl ?_
            refine x_goto 43 C dX12_isPath_39 (by decide) ?_
            exact x_iret C dX12_isPath_43 (by first | rfl | exact nar_b _ | exact nar_01 (by first | assumption | omega | exact hw.2.2.2.2.1 _ _ rfl | exact hz0 _ _ rfl)) ⟨vi (by first | rfl | (simp [bI, rIsPath, h1, h12, h19, h25, h35]; done) | (simp [bI, rIsPath, h1, h12, h19, h25, h35]; omega)), rfl⟩
set_option maxHeartbeats 4000000 in
set_option maxRecDepth 100000 in
theorem c_X12_isAddress {E : EV} {l : Launch} {G : GT} {R : RT} {o : Nat} {x : Int} (hM : RM G o) (h1 : InR x) (hA : RA R) : MT E l yX12_isAddress cX12_isAddress 2 (some .boolean) 1 22 0 0 [.ref o, .int (i32 x)] (wR G R) (pD (some (.int (i32 (bI (rIsAddress R x))))) (wR G (R))) := by
  refine mt_of (own := RX12) (L := [some (.ref o), some (.int (i32 x))]) (by decide +kernel) rfl (Nat.le_of_ble_eq_true rfl) (List.forall_mem_cons.mpr ⟨rfl, (List.forall_mem_cons.mpr ⟨rfl, (fun _ h => absurd h List.not_mem_nil)⟩)⟩) rfl ?_
  intro p e s m args below meth c C hin
  refine x_wf (fun hw => ?_)
  have hr0 : ∀ k j, InR (R k j) := hw.2.2.1
  have hz0 : ∀ k j, mZ k = true → R k j = 0 ∨ R k j = 1 := hw.2.2.2.2.1
  have hh := hA.1
  have hh2 := hA.2
  refine x_iload_n 1 C dX12_isAddress_0 rfl rfl ?_
  refine x_iconst 2 C dX12_isAddress_1 rfl ?_
  refine x_aload_n 3 C dX12_isAddress_2 rfl rfl ?_
  refine x_mget 6 7 C fr_X12_172 dX12_isAddress_3 rfl rfl hM ?_
  refine x_iconst 7 C dX12_isAddress_6 rfl ?_
  refine x_isub 8 C dX12_isAddress_7 rfl ?_
  refine x_Sr (As := [_, _, _]) 11 C vw_X12_168 tw_X12_lies (c_X12_lies (by first | assumption | omega) (by omega) (by omega)) dX12_isAddress_8 rfl rfl rfl ⟨Nat.le_of_ble_eq_true rfl, Nat.le_of_ble_eq_true rfl⟩ (Nat.le_of_ble_eq_true rfl) ?_
  exact x_iret C dX12_isAddress_11 (by first | rfl | exact nar_b _ | exact nar_01 (by first | assumption | omega | exact hw.2.2.2.2.1 _ _ rfl | exact hz0 _ _ rfl)) ⟨vi (rfl), rfl⟩
set_option maxHeartbeats 4000000 in
set_option maxRecDepth 100000 in
theorem c_X12_find {E : EV} {l : Launch} {G : GT} {R : RT} {o : Nat} {a b c1 d : Int} (hM : RM G o) (h1 : InR a) (h2 : InR b) (h3 : InR c1) (h4 : InR d) (hA : RA R) : MT E l yX12_find cX12_find 7 (some .int) 0 0 0 0 [.ref o, .int (i32 a), .int (i32 b), .int (i32 c1), .int (i32 d)] (wR G R) (pD (some (.int (i32 (rFnd R a b c1 d)))) (wR G (R))) := by
  refine mt_of (own := RX12) (L := [some (.ref o), some (.int (i32 a)), some (.int (i32 b)), some (.int (i32 c1)), some (.int (i32 d)), none, none]) (by decide +kernel) rfl (Nat.le_of_ble_eq_true rfl) (List.forall_mem_cons.mpr ⟨rfl, (List.forall_mem_cons.mpr ⟨rfl, (List.forall_mem_cons.mpr ⟨rfl, (List.forall_mem_cons.mpr ⟨rfl, (List.forall_mem_cons.mpr ⟨rfl, (fun _ h => absurd h List.not_mem_nil)⟩)⟩)⟩)⟩)⟩) rfl ?_
  intro p e s m args below meth c C hin
  refine x_wf (fun hw => ?_)
  have hr0 : ∀ k j, InR (R k j) := hw.2.2.1
  have hz0 : ∀ k j, mZ k = true → R k j = 0 ∨ R k j = 1 := hw.2.2.2.2.1
  have hh := hA.1
  have hh2 := hA.2
  refine x_iconst 1 C dX12_find_0 rfl ?_
  refine x_istore 3 C dX12_find_1 rfl rfl rfl ?_
  refine x_iconst 4 C dX12_find_3 rfl ?_
  refine x_istore 6 C dX12_find_4 rfl rfl rfl ?_
  refine x_loop (α := Int × Int) (fun ⟨f, k⟩ => (R 7 0 - k).toNat) (fun ⟨f, k⟩ => 0 ≤ k ∧ k ≤ R 7 0 ∧ f = rFind R a b c1 d k.toNat) (fun ⟨f, k⟩ => wR G R) (fun ⟨f, k⟩ => [some (.ref o), some (.int (i32 a)), some (.int (i32 b)), some (.int (i32 c1)), some (.int (i32 d)), some (.int (i32 f)), some (.int (i32 k))]) (fun _ => []) (-1, 0) ⟨by omega, by omega, rfl⟩ rfl rfl rfl ?_
  intro aa hI ih
  obtain ⟨f, k⟩ := aa
  (try dsimp only at hI); (try dsimp only at ih); (try dsimp only)
  obtain ⟨i1, i2, i3⟩ := hI
  refine x_iload 8 C dX12_find_6 rfl rfl ?_
  refine x_aload_n 9 C dX12_find_8 rfl rfl ?_
  refine x_mget 12 7 C fr_X12_172 dX12_find_9 rfl rfl hM ?_
  refine x_icmp_ge 15 75 C dX12_find_12 rfl (by decide) (by first | exact hw.2.2.1 _ _ | exact hr0 _ _ | assumption | omega | exact ⟨by omega, by omega⟩) (by first | exact hw.2.2.1 _ _ | exact hr0 _ _ | assumption | omega | exact ⟨by omega, by omega⟩) (fun h12 => ?_) (fun h12 => ?_)
  · skip
    refine x_iload 77 C dX12_find_75 rfl rfl ?_
    exact x_iret C dX12_find_77 rfl ⟨vi (by rw [i3, show k = R 7 0 by omega]; rfl), rfl⟩
  · skip
    refine x_joinv 67 (fun v => v = if R 8 k.toNat = a ∧ R 9 k.toNat = b ∧ R 10 k.toNat = c1 ∧ R 11 k.toNat = d then k else f) ?_ (fun hJ67 => ?_)
    · intro v hJ
      subst hJ
      refine x_istore 69 C dX12_find_67 rfl rfl rfl ?_
      refine x_iinc 72 C dX12_find_69 rfl rfl rfl rfl ?_
      refine x_goto 6 C dX12_find_72 (by decide) ?_
      exact ih (if R 8 k.toNat = a ∧ R 9 k.toNat = b ∧ R 10 k.toNat = c1 ∧ R 11 k.toNat = d then k else f, k + 1) ⟨by dsimp only; omega, by dsimp only; omega, by dsimp only; rw [show (k + 1).toNat = k.toNat + 1 by omega, rFind, show ((k.toNat : Nat) : Int) = k by omega, i3]⟩ (by dsimp only; omega)
    · skip
      refine x_aload_n 16 C dX12_find_15 rfl rfl ?_
      refine x_mrow 19 8 C fr_X12_20 dX12_find_16 rfl rfl hM ?_
      refine x_iload 21 C dX12_find_19 rfl rfl ?_
      refine x_mldI 22 8 C dX12_find_21 rfl rfl hM (by first | exact hIx | exact ⟨by omega, Int.lt_of_lt_of_le (b := 24) (by omega) (by decide)⟩) ?_
      refine x_iload_n 23 C dX12_find_22 rfl rfl ?_
      refine x_icmp_ne 26 65 C dX12_find_23 rfl (by decide) (by first | exact hw.2.2.1 _ _ | exact hr0 _ _ | assumption | omega | exact ⟨by omega, by omega⟩) (by first | exact hw.2.2.1 _ _ | exact hr0 _ _ | assumption | omega | exact ⟨by omega, by omega⟩) (fun h23 => ?_) (fun h23 => ?_)
      · skip
        refine x_iload 67 C dX12_find_65 rfl rfl ?_
        exact hJ67 _ (by first | (simp [bI, h23]; done) | (simp [bI, h23]; omega) | (simp [bI, h23] at *; omega))
      · skip
        refine x_aload_n 27 C dX12_find_26 rfl rfl ?_
        refine x_mrow 30 9 C fr_X12_23 dX12_find_27 rfl rfl hM ?_
        refine x_iload 32 C dX12_find_30 rfl rfl ?_
        refine x_mldI 33 9 C dX12_find_32 rfl rfl hM (by first | exact hIx | exact ⟨by omega, Int.lt_of_lt_of_le (b := 24) (by omega) (by decide)⟩) ?_
        refine x_iload_n 34 C dX12_find_33 rfl rfl ?_
        refine x_icmp_ne 37 65 C dX12_find_34 rfl (by decide) (by first | exact hw.2.2.1 _ _ | exact hr0 _ _ | assumption | omega | exact ⟨by omega, by omega⟩) (by first | exact hw.2.2.1 _ _ | exact hr0 _ _ | assumption | omega | exact ⟨by omega, by omega⟩) (fun h34 => ?_) (fun h34 => ?_)
        · skip
          refine x_iload 67 C dX12_find_65 rfl rfl ?_
          exact hJ67 _ (by first | (simp [bI, h23, h34]; done) | (simp [bI, h23, h34]; omega) | (simp [bI, h23, h34] at *; omega))
        · skip
          refine x_aload_n 38 C dX12_find_37 rfl rfl ?_
          refine x_mrow 41 10 C fr_X12_26 dX12_find_38 rfl rfl hM ?_
          refine x_iload 43 C dX12_find_41 rfl rfl ?_
          refine x_mldI 44 10 C dX12_find_43 rfl rfl hM (by first | exact hIx | exact ⟨by omega, Int.lt_of_lt_of_le (b := 24) (by omega) (by decide)⟩) ?_
          refine x_iload_n 45 C dX12_find_44 rfl rfl ?_
          refine x_icmp_ne 48 65 C dX12_find_45 rfl (by decide) (by first | exact hw.2.2.1 _ _ | exact hr0 _ _ | assumption | omega | exact ⟨by omega, by omega⟩) (by first | exact hw.2.2.1 _ _ | exact hr0 _ _ | assumption | omega | exact ⟨by omega, by omega⟩) (fun h45 => ?_) (fun h45 => ?_)
          · skip
            refine x_iload 67 C dX12_find_65 rfl rfl ?_
            exact hJ67 _ (by first | (simp [bI, h23, h34, h45]; done) | (simp [bI, h23, h34, h45]; omega) | (simp [bI, h23, h34, h45] at *; omega))
          · skip
            refine x_aload_n 49 C dX12_find_48 rfl rfl ?_
            refine x_mrow 52 11 C fr_X12_29 dX12_find_49 rfl rfl hM ?_
            refine x_iload 54 C dX12_find_52 rfl rfl ?_
            refine x_mldI 55 11 C dX12_find_54 rfl rfl hM (by first | exact hIx | exact ⟨by omega, Int.lt_of_lt_of_le (b := 24) (by omega) (by decide)⟩) ?_
            refine x_iload 57 C dX12_find_55 rfl rfl ?_
            refine x_icmp_ne 60 65 C dX12_find_57 rfl (by decide) (by first | exact hw.2.2.1 _ _ | exact hr0 _ _ | assumption | omega | exact ⟨by omega, by omega⟩) (by first | exact hw.2.2.1 _ _ | exact hr0 _ _ | assumption | omega | exact ⟨by omega, by omega⟩) (fun h57 => ?_) (fun h57 => ?_)
            · skip
              refine x_iload 67 C dX12_find_65 rfl rfl ?_
              exact hJ67 _ (by first | (simp [bI, h23, h34, h45, h57]; done) | (simp [bI, h23, h34, h45, h57]; omega) | (simp [bI, h23, h34, h45, h57] at *; omega))
            · skip
              refine x_iload 62 C dX12_find_60 rfl rfl ?_
              refine x_goto 67 C dX12_find_62 (by decide) ?_
              exact hJ67 _ (by first | (simp [bI, h23, h34, h45, h57]; done) | (simp [bI, h23, h34, h45, h57]; omega) | (simp [bI, h23, h34, h45, h57] at *; omega))
set_option maxHeartbeats 4000000 in
set_option maxRecDepth 100000 in
theorem c_X12_tells {E : EV} {l : Launch} {G : GT} {R : RT} {o : Nat} {a b c1 d : Int} (hM : RM G o) (h1 : InR a) (h2 : InR b) (h3 : InR c1) (h4 : InR d) (hA : RA R) : MT E l yX12_tells cX12_tells 6 (some .int) 1 26 0 0 [.ref o, .int (i32 a), .int (i32 b), .int (i32 c1), .int (i32 d)] (wR G R) (pD (some (.int (i32 (rTells R a b c1 d)))) (wR G (rTellsR R a b c1 d))) := by
  refine mt_of (own := RX12) (L := [some (.ref o), some (.int (i32 a)), some (.int (i32 b)), some (.int (i32 c1)), some (.int (i32 d)), none]) (by decide +kernel) rfl (Nat.le_of_ble_eq_true rfl) (List.forall_mem_cons.mpr ⟨rfl, (List.forall_mem_cons.mpr ⟨rfl, (List.forall_mem_cons.mpr ⟨rfl, (List.forall_mem_cons.mpr ⟨rfl, (List.forall_mem_cons.mpr ⟨rfl, (fun _ h => absurd h List.not_mem_nil)⟩)⟩)⟩)⟩)⟩) rfl ?_
  intro p e s m args below meth c C hin
  refine x_wf (fun hw => ?_)
  have hr0 : ∀ k j, InR (R k j) := hw.2.2.1
  have hz0 : ∀ k j, mZ k = true → R k j = 0 ∨ R k j = 1 := hw.2.2.2.2.1
  have hh := hA.1
  have hh2 := hA.2
  have hf := rFnd_in hA a b c1 d
  refine x_aload_n 1 C dX12_tells_0 rfl rfl ?_
  refine x_iload_n 2 C dX12_tells_1 rfl rfl ?_
  refine x_iload_n 3 C dX12_tells_2 rfl rfl ?_
  refine x_iload_n 4 C dX12_tells_3 rfl rfl ?_
  refine x_iload 6 C dX12_tells_4 rfl rfl ?_
  refine x_Vr (As := [_, _, _, _]) 9 C vw_X12_193 iw_X12_find sw_X12_find (c_X12_find hM (by assumption) (by assumption) (by assumption) (by assumption) hA) dX12_tells_6 rfl rfl rfl rfl rfl rfl hM.1 ⟨Nat.le_of_ble_eq_true rfl, Nat.le_of_ble_eq_true rfl⟩ (Nat.le_of_ble_eq_true rfl) ?_
  refine x_istore 11 C dX12_tells_9 rfl rfl rfl ?_
  refine x_iload 13 C dX12_tells_11 rfl rfl ?_
  refine x_iconst 14 C dX12_tells_13 rfl ?_
  refine x_icmp_ne 17 99 C dX12_tells_14 rfl (by decide) (by first | exact hw.2.2.1 _ _ | exact hr0 _ _ | assumption | omega | exact ⟨by omega, by omega⟩) (by first | exact hw.2.2.1 _ _ | exact hr0 _ _ | assumption | omega | exact ⟨by omega, by omega⟩) (fun h14 => ?_) (fun h14 => ?_)
  · skip
    refine x_iload 101 C dX12_tells_99 rfl rfl ?_
    exact x_iret C dX12_tells_101 rfl ⟨vi (by first | rfl | (simp [bI, rTells, h14]; done) | (simp [bI, rTells, h14]; omega)), congrArg (wR G) (by first | rfl | (simp [bI, rTellsR, h14]; done) | (simp [bI, rTellsR, h14]; omega))⟩
  · skip
    refine x_aload_n 18 C dX12_tells_17 rfl rfl ?_
    refine x_mget 21 7 C fr_X12_172 dX12_tells_18 rfl rfl hM ?_
    refine x_bipush 23 C dX12_tells_21 rfl (by decide) ?_
    refine x_icmp_ge 26 99 C dX12_tells_23 rfl (by decide) (by first | exact hw.2.2.1 _ _ | exact hr0 _ _ | assumption | omega | exact ⟨by omega, by omega⟩) (by first | exact hw.2.2.1 _ _ | exact hr0 _ _ | assumption | omega | exact ⟨by omega, by omega⟩) (fun h23 => ?_) (fun h23 => ?_)
    · skip
      refine x_iload 101 C dX12_tells_99 rfl rfl ?_
      exact x_iret C dX12_tells_101 rfl ⟨vi (by first | rfl | (simp [bI, rTells, h14, h23]; done) | (simp [bI, rTells, h14, h23]; omega)), congrArg (wR G) (by first | rfl | (simp [bI, rTellsR, h14, h23]; done) | (simp [bI, rTellsR, h14, h23]; omega))⟩
    · skip
      refine x_aload_n 27 C dX12_tells_26 rfl rfl ?_
      refine x_mget 30 7 C fr_X12_172 dX12_tells_27 rfl rfl hM ?_
      refine x_istore 32 C dX12_tells_30 rfl rfl rfl ?_
      refine x_aload_n 33 C dX12_tells_32 rfl rfl ?_
      refine x_mrow 36 8 C fr_X12_20 dX12_tells_33 rfl rfl hM ?_
      refine x_iload 38 C dX12_tells_36 rfl rfl ?_
      refine x_iload_n 39 C dX12_tells_38 rfl rfl ?_
      refine x_mstI 40 8 C dX12_tells_39 rfl rfl hM ⟨by omega, Int.lt_of_lt_of_le (b := 24) (by omega) (by decide)⟩ (by first | exact hw.2.2.1 _ _ | exact hr0 _ _ | assumption | omega | exact ⟨by omega, by omega⟩) ?_
      refine x_wf (fun hw => ?_)
      refine x_aload_n 41 C dX12_tells_40 rfl rfl ?_
      refine x_mrow 44 9 C fr_X12_23 dX12_tells_41 rfl rfl hM ?_
      refine x_iload 46 C dX12_tells_44 rfl rfl ?_
      refine x_iload_n 47 C dX12_tells_46 rfl rfl ?_
      refine x_mstI 48 9 C dX12_tells_47 rfl rfl hM ⟨by omega, Int.lt_of_lt_of_le (b := 24) (by omega) (by decide)⟩ (by first | exact hw.2.2.1 _ _ | exact hr0 _ _ | assumption | omega | exact ⟨by omega, by omega⟩) ?_
      refine x_wf (fun hw => ?_)
      refine x_aload_n 49 C dX12_tells_48 rfl rfl ?_
      refine x_mrow 52 10 C fr_X12_26 dX12_tells_49 rfl rfl hM ?_
      refine x_iload 54 C dX12_tells_52 rfl rfl ?_
      refine x_iload_n 55 C dX12_tells_54 rfl rfl ?_
      refine x_mstI 56 10 C dX12_tells_55 rfl rfl hM ⟨by omega, Int.lt_of_lt_of_le (b := 24) (by omega) (by decide)⟩ (by first | exact hw.2.2.1 _ _ | exact hr0 _ _ | assumption | omega | exact ⟨by omega, by omega⟩) ?_
      refine x_wf (fun hw => ?_)
      refine x_aload_n 57 C dX12_tells_56 rfl rfl ?_
      refine x_mrow 60 11 C fr_X12_29 dX12_tells_57 rfl rfl hM ?_
      refine x_iload 62 C dX12_tells_60 rfl rfl ?_
      refine x_iload 64 C dX12_tells_62 rfl rfl ?_
      refine x_mstI 65 11 C dX12_tells_64 rfl rfl hM ⟨by omega, Int.lt_of_lt_of_le (b := 24) (by omega) (by decide)⟩ (by first | exact hw.2.2.1 _ _ | exact hr0 _ _ | assumption | omega | exact ⟨by omega, by omega⟩) ?_
      refine x_wf (fun hw => ?_)
      refine x_aload_n 66 C dX12_tells_65 rfl rfl ?_
      refine x_mrow 69 12 C fr_X12_32 dX12_tells_66 rfl rfl hM ?_
      refine x_iload 71 C dX12_tells_69 rfl rfl ?_
      refine x_iconst 72 C dX12_tells_71 rfl ?_
      refine x_mstI 73 12 C dX12_tells_72 rfl rfl hM ⟨by omega, Int.lt_of_lt_of_le (b := 24) (by omega) (by decide)⟩ (by first | exact hw.2.2.1 _ _ | exact hr0 _ _ | assumption | omega | exact ⟨by omega, by omega⟩) ?_
      refine x_wf (fun hw => ?_)
      refine x_aload_n 74 C dX12_tells_73 rfl rfl ?_
      refine x_mrow 77 14 C fr_X12_38 dX12_tells_74 rfl rfl hM ?_
      refine x_iload 79 C dX12_tells_77 rfl rfl ?_
      refine x_iconst 80 C dX12_tells_79 rfl ?_
      refine x_mstI 81 14 C dX12_tells_80 rfl rfl hM ⟨by omega, Int.lt_of_lt_of_le (b := 24) (by omega) (by decide)⟩ (by first | exact hw.2.2.1 _ _ | exact hr0 _ _ | assumption | omega | exact ⟨by omega, by omega⟩) ?_
      refine x_wf (fun hw => ?_)
      refine x_aload_n 82 C dX12_tells_81 rfl rfl ?_
      refine x_mrow 85 19 C fr_X12_53 dX12_tells_82 rfl rfl hM ?_
      refine x_iload 87 C dX12_tells_85 rfl rfl ?_
      refine x_iconst 88 C dX12_tells_87 rfl ?_
      refine x_mstI 89 19 C dX12_tells_88 rfl rfl hM ⟨by omega, Int.lt_of_lt_of_le (b := 24) (by omega) (by decide)⟩ (by first | exact hw.2.2.1 _ _ | exact hr0 _ _ | assumption | omega | exact ⟨by omega, by omega⟩) ?_
      refine x_wf (fun hw => ?_)
      refine x_aload_n 90 C dX12_tells_89 rfl rfl ?_
      refine x_dup 91 C dX12_tells_90 rfl rfl ?_
      refine x_mget 94 7 C fr_X12_172 dX12_tells_91 rfl rfl hM ?_
      (try simp only [u2r, false_and, and_false, true_and, and_true, ↓reduceIte, Nat.reduceEqDiff])
      refine x_iconst 95 C dX12_tells_94 rfl ?_
      refine x_iadd 96 C dX12_tells_95 rfl ?_
      refine x_mput 99 7 C fw_X12_172 dX12_tells_96 rfl rfl rfl hM (by first | exact hw.2.2.1 _ _ | exact hr0 _ _ | assumption | omega | exact ⟨by omega, by omega⟩) (fun z => absurd z (by decide)) ?_
      refine x_wf (fun hw => ?_)
      refine x_iload 101 C dX12_tells_99 rfl rfl ?_
      exact x_iret C dX12_tells_101 rfl ⟨vi (by first | rfl | (simp [bI, rTells, h14, h23]; done) | (simp [bI, rTells, h14, h23]; omega)), congrArg (wR G) (by first | rfl | (simp [bI, rTellsR, h14, h23]; done) | (simp [bI, rTellsR, h14, h23]; omega))⟩
