/-! rows laid by program (wip/tools/gen.py) -/
set_option maxHeartbeats 4000000 in
set_option maxRecDepth 100000 in
theorem c_X12_isBarred {E : EV} {l : Launch} {G : GT} {R : RT} {o : Nat} {a d w : Int} (hM : RM G o) (hH : RH R) (hC : RC R) (hA : RA R) (hS : RS R) (h1 : 0 ≤ a ∧ a < R 7 0) (h2 : 0 ≤ d ∧ d < R 3 0) (h3 : InR w) : MT E l yX12_isBarred cX12_isBarred 7 (some .boolean) 2 43 0 0 [.ref o, .int (i32 a), .int (i32 d), .int (i32 w)] (wR G R) (pD (some (.int (i32 (bI (rBar R a d w))))) (wR G (R))) := by
  refine mt_of (own := RX12) (L := [some (.ref o), some (.int (i32 a)), some (.int (i32 d)), some (.int (i32 w)), none, none, none]) (by decide +kernel) rfl (Nat.le_of_ble_eq_true rfl) (List.forall_mem_cons.mpr ⟨rfl, (List.forall_mem_cons.mpr ⟨rfl, (List.forall_mem_cons.mpr ⟨rfl, (List.forall_mem_cons.mpr ⟨rfl, (fun _ h => absurd h List.not_mem_nil)⟩)⟩)⟩)⟩) rfl ?_
  intro p e s m args below meth c C hin
  refine x_wf (fun hw => ?_)
  have hr0 : ∀ k j, InR (R k j) := hw.2.2.1
  have hz0 : ∀ k j, mZ k = true → R k j = 0 ∨ R k j = 1 := hw.2.2.2.2.1
  have hh := hA.1
  have hh2 := hA.2
  have hh0 := hH.1
  have hh := hC.1
  obtain ⟨s1, s2, s3, s4⟩ := hS a.toNat (by omega)
  have hdi : InR d := ⟨by omega, by omega⟩
  refine x_iconst 1 C dX12_isBarred_0 rfl ?_
  refine x_istore 3 C dX12_isBarred_1 rfl rfl rfl ?_
  refine x_iconst 4 C dX12_isBarred_3 rfl ?_
  refine x_istore 6 C dX12_isBarred_4 rfl rfl rfl ?_
  refine x_loop (α := Bool × Int × Option Value) (fun ⟨b, k, x6⟩ => (R 34 0 - k).toNat) (fun ⟨b, k, x6⟩ => 0 ≤ k ∧ k ≤ R 34 0 ∧ b = rBarF R a d w k.toNat) (fun ⟨b, k, x6⟩ => wR G R) (fun ⟨b, k, x6⟩ => [some (.ref o), some (.int (i32 a)), some (.int (i32 d)), some (.int (i32 w)), some (.int (i32 (bI b))), some (.int (i32 k)), x6]) (fun _ => []) (false, 0, none) ⟨by omega, by omega, rfl⟩ rfl rfl rfl ?_
  intro aa hI ih
  obtain ⟨b, k, x6⟩ := aa
  (try dsimp only at hI); (try dsimp only at ih); (try dsimp only)
  obtain ⟨i1, i2, i3⟩ := hI
  have hcc := hC.2 k.toNat
  refine x_iload 8 C dX12_isBarred_6 rfl rfl ?_
  refine x_aload_n 9 C dX12_isBarred_8 rfl rfl ?_
  refine x_mget 12 34 C fr_X12_260 dX12_isBarred_9 rfl rfl hM ?_
  refine x_icmp_ge 15 146 C dX12_isBarred_12 rfl (by decide) (by first | exact hw.2.2.1 _ _ | exact hr0 _ _ | assumption | omega | exact ⟨by omega, by omega⟩) (by first | exact hw.2.2.1 _ _ | exact hr0 _ _ | assumption | omega | exact ⟨by omega, by omega⟩) (fun h12 => ?_) (fun h12 => ?_)
  · skip
    refine x_iload 148 C dX12_isBarred_146 rfl rfl ?_
    exact x_iret C dX12_isBarred_148 (by first | rfl | exact nar_b _ | exact nar_01 (by first | assumption | omega | exact hw.2.2.2.2.1 _ _ rfl | exact hz0 _ _ rfl)) ⟨vi (by rw [i3, show k = R 34 0 by omega]; rfl), rfl⟩
  · skip
    obtain ⟨c1, c2, c3, c4⟩ := hcc (by omega)
    refine x_joinv 50 (fun vJ => vJ = bI (rNear R d k.toNat)) ?_ (fun hJ50 => ?_)
    · intro vJ hJ
      subst hJ
      refine x_istore 52 C dX12_isBarred_50 rfl rfl rfl ?_
      refine x_joinv 138 (fun vJ => vJ = bI (b || rBarK R a d w k.toNat)) ?_ (fun hJ138 => ?_)
      · intro vJ hJ
        subst hJ
        refine x_istore 140 C dX12_isBarred_138 rfl rfl rfl ?_
        refine x_iinc 143 C dX12_isBarred_140 rfl rfl rfl rfl ?_
        refine x_goto 6 C dX12_isBarred_143 (by decide) ?_
        have eb : (b || rBarK R a d w k.toNat) = rBarF R a d w (k + 1).toNat := by rw [show (k + 1).toNat = k.toNat + 1 by omega, rBarF, i3]
        exact ih (b || rBarK R a d w k.toNat, k + 1, some (.int (i32 (bI (rNear R d k.toNat))))) ⟨by dsimp only; omega, by dsimp only; omega, eb⟩ (by dsimp only; omega)
      · skip
        refine x_iload 54 C dX12_isBarred_52 rfl rfl ?_
        refine x_if_neB 57 133 C dX12_isBarred_54 rfl (by decide) (fun h54 => ?_) (fun h54 => ?_)
        · skip
          refine x_iconst 134 C dX12_isBarred_133 rfl ?_
          refine x_goto 138 C dX12_isBarred_134 (by decide) ?_
          exact hJ138 _ (by first | (simp [bI, rBarK, h54]; done) | (simp [bI, rBarK, h54]; omega) | (simp [bI, rBarK, h54] at *; omega))
        · skip
          refine x_aload_n 58 C dX12_isBarred_57 rfl rfl ?_
          refine x_mrow 61 40 C fr_X12_107 dX12_isBarred_58 rfl rfl hM ?_
          refine x_iload 63 C dX12_isBarred_61 rfl rfl ?_
          refine x_mldI 64 40 C dX12_isBarred_63 rfl rfl hM (by first | exact hIx | exact ⟨by omega, Int.lt_of_lt_of_le (b := 12) (by omega) (by decide)⟩) ?_
          refine x_iconst 65 C dX12_isBarred_64 rfl ?_
          refine x_Sr (As := [_, _]) 68 C vw_X12_263 tw_X12_has c_X12_has dX12_isBarred_65 rfl rfl rfl ⟨Nat.le_of_ble_eq_true rfl, Nat.le_of_ble_eq_true rfl⟩ (Nat.le_of_ble_eq_true rfl) ?_
          refine x_if_eqB 71 137 C dX12_isBarred_68 rfl (by decide) (fun h68 => ?_) (fun h68 => ?_)
          · skip
            refine x_iconst 138 C dX12_isBarred_137 rfl ?_
            exact hJ138 _ (by first | (simp [bI, rBarK, h54, h68]; done) | (simp [bI, rBarK, h54, h68]; omega) | (simp [bI, rBarK, h54, h68] at *; omega))
          · skip
            refine x_aload_n 72 C dX12_isBarred_71 rfl rfl ?_
            refine x_mrow 75 35 C fr_X12_92 dX12_isBarred_72 rfl rfl hM ?_
            refine x_iload 77 C dX12_isBarred_75 rfl rfl ?_
            refine x_mldI 78 35 C dX12_isBarred_77 rfl rfl hM (by first | exact hIx | exact ⟨by omega, Int.lt_of_lt_of_le (b := 12) (by omega) (by decide)⟩) ?_
            refine x_aload_n 79 C dX12_isBarred_78 rfl rfl ?_
            refine x_mrow 82 18 C fr_X12_50 dX12_isBarred_79 rfl rfl hM ?_
            refine x_iload_n 83 C dX12_isBarred_82 rfl rfl ?_
            refine x_mldI 84 18 C dX12_isBarred_83 rfl rfl hM (by first | exact hIx | exact ⟨by omega, Int.lt_of_lt_of_le (b := 24) (by omega) (by decide)⟩) ?_
            refine x_icmp_ne 87 137 C dX12_isBarred_84 rfl (by decide) (by first | exact hw.2.2.1 _ _ | exact hr0 _ _ | assumption | omega | exact ⟨by omega, by omega⟩) (by first | exact hw.2.2.1 _ _ | exact hr0 _ _ | assumption | omega | exact ⟨by omega, by omega⟩) (fun h84 => ?_) (fun h84 => ?_)
            · skip
              refine x_iconst 138 C dX12_isBarred_137 rfl ?_
              exact hJ138 _ (by first | (simp [bI, rBarK, h54, h68, h84]; done) | (simp [bI, rBarK, h54, h68, h84]; omega) | (simp [bI, rBarK, h54, h68, h84] at *; omega))
            · skip
              refine x_aload_n 88 C dX12_isBarred_87 rfl rfl ?_
              refine x_mrow 91 41 C fr_X12_110 dX12_isBarred_88 rfl rfl hM ?_
              refine x_iload 93 C dX12_isBarred_91 rfl rfl ?_
              refine x_mldI 94 41 C dX12_isBarred_93 rfl rfl hM (by first | exact hIx | exact ⟨by omega, Int.lt_of_lt_of_le (b := 12) (by omega) (by decide)⟩) ?_
              refine x_iconst 95 C dX12_isBarred_94 rfl ?_
              refine x_icmp_eq 98 109 C dX12_isBarred_95 rfl (by decide) (by first | exact hw.2.2.1 _ _ | exact hr0 _ _ | assumption | omega | exact ⟨by omega, by omega⟩) (by first | exact hw.2.2.1 _ _ | exact hr0 _ _ | assumption | omega | exact ⟨by omega, by omega⟩) (fun h95 => ?_) (fun h95 => ?_)
              · skip
                refine x_iload 111 C dX12_isBarred_109 rfl rfl ?_
                refine x_if_eqB 114 137 C dX12_isBarred_111 rfl (by decide) (fun h111 => ?_) (fun h111 => ?_)
                · skip
                  refine x_iconst 138 C dX12_isBarred_137 rfl ?_
                  exact hJ138 _ (by first | (simp [bI, rBarK, h54, h68, h84, h95, h111]; done) | (simp [bI, rBarK, h54, h68, h84, h95, h111]; omega) | (simp [bI, rBarK, h54, h68, h84, h95, h111] at *; omega))
                · skip
                  refine x_aload_n 115 C dX12_isBarred_114 rfl rfl ?_
                  refine x_mrow 118 39 C fr_X12_104 dX12_isBarred_115 rfl rfl hM ?_
                  refine x_iload 120 C dX12_isBarred_118 rfl rfl ?_
                  refine x_mldI 121 39 C dX12_isBarred_120 rfl rfl hM (by first | exact hIx | exact ⟨by omega, Int.lt_of_lt_of_le (b := 12) (by omega) (by decide)⟩) ?_
                  refine x_aload_n 122 C dX12_isBarred_121 rfl rfl ?_
                  refine x_mrow 125 21 C fr_X12_59 dX12_isBarred_122 rfl rfl hM ?_
                  refine x_iload_n 126 C dX12_isBarred_125 rfl rfl ?_
                  refine x_mldI 127 21 C dX12_isBarred_126 rfl rfl hM (by first | exact hIx | exact ⟨by omega, Int.lt_of_lt_of_le (b := 24) (by omega) (by decide)⟩) ?_
                  refine x_Sr (As := [_, _]) 130 C vw_X12_285 tw_X12_begins (c_X12_begins (by first | assumption | omega) (by omega)) dX12_isBarred_127 rfl rfl rfl ⟨Nat.le_of_ble_eq_true rfl, Nat.le_of_ble_eq_true rfl⟩ (Nat.le_of_ble_eq_true rfl) ?_
                  refine x_if_eqB 133 137 C dX12_isBarred_130 rfl (by decide) (fun h130 => ?_) (fun h130 => ?_)
                  · skip
                    refine x_iconst 138 C dX12_isBarred_137 rfl ?_
                    exact hJ138 _ (by first | (simp [bI, rBarK, h54, h68, h84, h95, h111, h130]; done) | (simp [bI, rBarK, h54, h68, h84, h95, h111, h130]; omega) | (simp [bI, rBarK, h54, h68, h84, h95, h111, h130] at *; omega))
                  · skip
                    refine x_iconst 134 C dX12_isBarred_133 rfl ?_
                    refine x_goto 138 C dX12_isBarred_134 (by decide) ?_
                    exact hJ138 _ (by first | (simp [bI, rBarK, h54, h68, h84, h95, h111, h130]; done) | (simp [bI, rBarK, h54, h68, h84, h95, h111, h130]; omega) | (simp [bI, rBarK, h54, h68, h84, h95, h111, h130] at *; omega))
              · skip
                refine x_aload_n 99 C dX12_isBarred_98 rfl rfl ?_
                refine x_mrow 102 41 C fr_X12_110 dX12_isBarred_99 rfl rfl hM ?_
                refine x_iload 104 C dX12_isBarred_102 rfl rfl ?_
                refine x_mldI 105 41 C dX12_isBarred_104 rfl rfl hM (by first | exact hIx | exact ⟨by omega, Int.lt_of_lt_of_le (b := 12) (by omega) (by decide)⟩) ?_
                refine x_iload_n 106 C dX12_isBarred_105 rfl rfl ?_
                refine x_icmp_ne 109 137 C dX12_isBarred_106 rfl (by decide) (by first | exact hw.2.2.1 _ _ | exact hr0 _ _ | assumption | omega | exact ⟨by omega, by omega⟩) (by first | exact hw.2.2.1 _ _ | exact hr0 _ _ | assumption | omega | exact ⟨by omega, by omega⟩) (fun h106 => ?_) (fun h106 => ?_)
                · skip
                  refine x_iconst 138 C dX12_isBarred_137 rfl ?_
                  exact hJ138 _ (by first | (simp [bI, rBarK, h54, h68, h84, h95, h106]; done) | (simp [bI, rBarK, h54, h68, h84, h95, h106]; omega) | (simp [bI, rBarK, h54, h68, h84, h95, h106] at *; omega))
                · skip
                  refine x_iload 111 C dX12_isBarred_109 rfl rfl ?_
                  refine x_if_eqB 114 137 C dX12_isBarred_111 rfl (by decide) (fun h111 => ?_) (fun h111 => ?_)
                  · skip
                    refine x_iconst 138 C dX12_isBarred_137 rfl ?_
                    exact hJ138 _ (by first | (simp [bI, rBarK, h54, h68, h84, h95, h106, h111]; done) | (simp [bI, rBarK, h54, h68, h84, h95, h106, h111]; omega) | (simp [bI, rBarK, h54, h68, h84, h95, h106, h111] at *; omega))
                  · skip
                    refine x_aload_n 115 C dX12_isBarred_114 rfl rfl ?_
                    refine x_mrow 118 39 C fr_X12_104 dX12_isBarred_115 rfl rfl hM ?_
                    refine x_iload 120 C dX12_isBarred_118 rfl rfl ?_
                    refine x_mldI 121 39 C dX12_isBarred_120 rfl rfl hM (by first | exact hIx | exact ⟨by omega, Int.lt_of_lt_of_le (b := 12) (by omega) (by decide)⟩) ?_
                    refine x_aload_n 122 C dX12_isBarred_121 rfl rfl ?_
                    refine x_mrow 125 21 C fr_X12_59 dX12_isBarred_122 rfl rfl hM ?_
                    refine x_iload_n 126 C dX12_isBarred_125 rfl rfl ?_
                    refine x_mldI 127 21 C dX12_isBarred_126 rfl rfl hM (by first | exact hIx | exact ⟨by omega, Int.lt_of_lt_of_le (b := 24) (by omega) (by decide)⟩) ?_
                    refine x_Sr (As := [_, _]) 130 C vw_X12_285 tw_X12_begins (c_X12_begins (by first | assumption | omega) (by omega)) dX12_isBarred_127 rfl rfl rfl ⟨Nat.le_of_ble_eq_true rfl, Nat.le_of_ble_eq_true rfl⟩ (Nat.le_of_ble_eq_true rfl) ?_
                    refine x_if_eqB 133 137 C dX12_isBarred_130 rfl (by decide) (fun h130 => ?_) (fun h130 => ?_)
                    · skip
                      refine x_iconst 138 C dX12_isBarred_137 rfl ?_
                      exact hJ138 _ (by first | (simp [bI, rBarK, h54, h68, h84, h95, h106, h111, h130]; done) | (simp [bI, rBarK, h54, h68, h84, h95, h106, h111, h130]; omega) | (simp [bI, rBarK, h54, h68, h84, h95, h106, h111, h130] at *; omega))
                    · skip
                      refine x_iconst 134 C dX12_isBarred_133 rfl ?_
                      refine x_goto 138 C dX12_isBarred_134 (by decide) ?_
                      exact hJ138 _ (by first | (simp [bI, rBarK, h54, h68, h84, h95, h106, h111, h130]; done) | (simp [bI, rBarK, h54, h68, h84, h95, h106, h111, h130]; omega) | (simp [bI, rBarK, h54, h68, h84, h95, h106, h111, h130] at *; omega))
    · skip
      obtain ⟨c1, c2, c3, c4⟩ := hcc (by omega)
      refine x_aload_n 16 C dX12_isBarred_15 rfl rfl ?_
      refine x_aload_n 17 C dX12_isBarred_16 rfl rfl ?_
      refine x_mrow 20 37 C fr_X12_98 dX12_isBarred_17 rfl rfl hM ?_
      refine x_iload 22 C dX12_isBarred_20 rfl rfl ?_
      refine x_mldI 23 37 C dX12_isBarred_22 rfl rfl hM (by first | exact hIx | exact ⟨by omega, Int.lt_of_lt_of_le (b := 12) (by omega) (by decide)⟩) ?_
      refine x_iload_n 24 C dX12_isBarred_23 rfl rfl ?_
      refine x_Vr (As := [_, _]) 27 C vw_X12_279 iw_X12_isIn sw_X12_isIn (c_X12_isIn hM hH (by omega) (by first | assumption | exact hr0 _ _ | omega)) dX12_isBarred_24 rfl rfl rfl rfl rfl rfl hM.1 ⟨Nat.le_of_ble_eq_true rfl, Nat.le_of_ble_eq_true rfl⟩ (Nat.le_of_ble_eq_true rfl) ?_
      refine x_if_neB 30 45 C dX12_isBarred_27 rfl (by decide) (fun h27 => ?_) (fun h27 => ?_)
      · skip
        refine x_iconst 46 C dX12_isBarred_45 rfl ?_
        refine x_goto 50 C dX12_isBarred_46 (by decide) ?_
        exact hJ50 _ (by first | (simp [bI, rNear, h27]; done) | (simp [bI, rNear, h27]; omega) | (simp [bI, rNear, h27] at *; omega))
      · skip
        refine x_aload_n 31 C dX12_isBarred_30 rfl rfl ?_
        refine x_iload_n 32 C dX12_isBarred_31 rfl rfl ?_
        refine x_aload_n 33 C dX12_isBarred_32 rfl rfl ?_
        refine x_mrow 36 37 C fr_X12_98 dX12_isBarred_33 rfl rfl hM ?_
        refine x_iload 38 C dX12_isBarred_36 rfl rfl ?_
        refine x_mldI 39 37 C dX12_isBarred_38 rfl rfl hM (by first | exact hIx | exact ⟨by omega, Int.lt_of_lt_of_le (b := 12) (by omega) (by decide)⟩) ?_
        refine x_Vr (As := [_, _]) 42 C vw_X12_279 iw_X12_isIn sw_X12_isIn (c_X12_isIn hM hH (by omega) (by first | assumption | exact hr0 _ _ | omega)) dX12_isBarred_39 rfl rfl rfl rfl rfl rfl hM.1 ⟨Nat.le_of_ble_eq_true rfl, Nat.le_of_ble_eq_true rfl⟩ (Nat.le_of_ble_eq_true rfl) ?_
        refine x_if_eqB 45 49 C dX12_isBarred_42 rfl (by decide) (fun h42 => ?_) (fun h42 => ?_)
        · skip
          refine x_iconst 50 C dX12_isBarred_49 rfl ?_
          exact hJ50 _ (by first | (simp [bI, rNear, h27, h42]; done) | (simp [bI, rNear, h27, h42]; omega) | (simp [bI, rNear, h27, h42] at *; omega))
        · skip
          refine x_iconst 46 C dX12_isBarred_45 rfl ?_
          refine x_goto 50 C dX12_isBarred_46 (by decide) ?_
          exact hJ50 _ (by first | (simp [bI, rNear, h27, h42]; done) | (simp [bI, rNear, h27, h42]; omega) | (simp [bI, rNear, h27, h42] at *; omega))
set_option maxHeartbeats 4000000 in
set_option maxRecDepth 100000 in
theorem c_X12_refuses {E : EV} {l : Launch} {G : GT} {R : RT} {o : Nat} {a w : Int} (hM : RM G o) (hH : RH R) (hC : RC R) (hA : RA R) (hD : RAd R) (hS : RS R) (h1 : 0 ≤ a ∧ a < R 7 0) (h3 : InR w) : MT E l yX12_refuses cX12_refuses 8 (some .boolean) 3 69 0 0 [.ref o, .int (i32 a), .int (i32 w)] (wR G R) (pD (some (.int (i32 (bI (rRefuses R a w))))) (wR G (R))) := by
  refine mt_of (own := RX12) (L := [some (.ref o), some (.int (i32 a)), some (.int (i32 w)), none, none, none, none, none]) (by decide +kernel) rfl (Nat.le_of_ble_eq_true rfl) (List.forall_mem_cons.mpr ⟨rfl, (List.forall_mem_cons.mpr ⟨rfl, (List.forall_mem_cons.mpr ⟨rfl, (fun _ h => absurd h List.not_mem_nil)⟩)⟩)⟩) rfl ?_
  intro p e s m args below meth c C hin
  refine x_wf (fun hw => ?_)
  have hr0 : ∀ k j, InR (R k j) := hw.2.2.1
  have hz0 : ∀ k j, mZ k = true → R k j = 0 ∨ R k j = 1 := hw.2.2.2.2.1
  have hh := hA.1
  have hh2 := hA.2
  have hh0 := hH.1
  obtain ⟨s1, s2, s3, s4⟩ := hS a.toNat (by omega)
  obtain ⟨d1, d2, d3, d4, d5, d6, d7, d8⟩ := hD a.toNat (by omega)
  refine x_aload_n 1 C dX12_refuses_0 rfl rfl ?_
  refine x_mrow 4 22 C fr_X12_62 dX12_refuses_1 rfl rfl hM ?_
  refine x_iload_n 5 C dX12_refuses_4 rfl rfl ?_
  refine x_mldI 6 22 C dX12_refuses_5 rfl rfl hM (by first | exact hIx | exact ⟨by omega, Int.lt_of_lt_of_le (b := 24) (by omega) (by decide)⟩) ?_
  refine x_istore_n 7 C dX12_refuses_6 rfl rfl rfl ?_
  refine x_aload_n 8 C dX12_refuses_7 rfl rfl ?_
  refine x_mrow 11 20 C fr_X12_56 dX12_refuses_8 rfl rfl hM ?_
  refine x_iload_n 12 C dX12_refuses_11 rfl rfl ?_
  refine x_mldI 13 20 C dX12_refuses_12 rfl rfl hM (by first | exact hIx | exact ⟨by omega, Int.lt_of_lt_of_le (b := 24) (by omega) (by decide)⟩) ?_
  refine x_istore 15 C dX12_refuses_13 rfl rfl rfl ?_
  refine x_joinv 47 (fun vJ => vJ = bI (rOwnD R a)) ?_ (fun hJ47 => ?_)
  · intro vJ hJ
    subst hJ
    refine x_istore 49 C dX12_refuses_47 rfl rfl rfl ?_
    refine x_joinv 68 (fun vJ => vJ = bI (rKind (R 22 a.toNat))) ?_ (fun hJ68 => ?_)
    · intro vJ hJ
      subst hJ
      refine x_istore 70 C dX12_refuses_68 rfl rfl rfl ?_
      refine x_joinv 90 (fun vJ => vJ = bI (rStrg R)) ?_ (fun hJ90 => ?_)
      · intro vJ hJ
        subst hJ
        refine x_istore 92 C dX12_refuses_90 rfl rfl rfl ?_
        refine x_join (α := Unit) 124 (fun u => rRf1 R a = false ∧ (rOwnD R a = false → ¬ R 20 a.toNat = -1)) (fun u => wR G R) (fun u => [some (.ref o), some (.int (i32 a)), some (.int (i32 w)), some (.int (i32 (R 22 a.toNat))), some (.int (i32 (R 20 a.toNat))), some (.int (i32 (bI (rOwnD R a)))), some (.int (i32 (bI (rKind (R 22 a.toNat))))), some (.int (i32 (bI (rStrg R))))]) (fun u => []) ?_ (fun hJ124 => ?_)
        · intro aa hJ
          obtain ⟨u, rfl⟩ := (⟨aa, rfl⟩ : ∃ z, z = aa)
          (try dsimp only at hJ); (try dsimp only)
          have hK124 := hJ
          refine x_join (α := Unit) 177 (fun u => rRf2 R a = false) (fun u => wR G R) (fun u => [some (.ref o), some (.int (i32 a)), some (.int (i32 w)), some (.int (i32 (R 22 a.toNat))), some (.int (i32 (R 20 a.toNat))), some (.int (i32 (bI (rOwnD R a)))), some (.int (i32 (bI (rKind (R 22 a.toNat))))), some (.int (i32 (bI (rStrg R))))]) (fun u => []) ?_ (fun hJ177 => ?_)
          · intro aa hJ
            obtain ⟨u, rfl⟩ := (⟨aa, rfl⟩ : ∃ z, z = aa)
            (try dsimp only at hJ); (try dsimp only)
            have hK177 := hJ
            refine x_join (α := Unit) 233 (fun u => rRf3 R a = false) (fun u => wR G R) (fun u => [some (.ref o), some (.int (i32 a)), some (.int (i32 w)), some (.int (i32 (R 22 a.toNat))), some (.int (i32 (R 20 a.toNat))), some (.int (i32 (bI (rOwnD R a)))), some (.int (i32 (bI (rKind (R 22 a.toNat))))), some (.int (i32 (bI (rStrg R))))]) (fun u => []) ?_ (fun hJ233 => ?_)
            · intro aa hJ
              obtain ⟨u, rfl⟩ := (⟨aa, rfl⟩ : ∃ z, z = aa)
              (try dsimp only at hJ); (try dsimp only)
              have hK233 := hJ
              refine x_aload_n 234 C dX12_refuses_233 rfl rfl ?_
              refine x_mrow 237 8 C fr_X12_20 dX12_refuses_234 rfl rfl hM ?_
              refine x_iload_n 238 C dX12_refuses_237 rfl rfl ?_
              refine x_mldI 239 8 C dX12_refuses_238 rfl rfl hM (by first | exact hIx | exact ⟨by omega, Int.lt_of_lt_of_le (b := 24) (by omega) (by decide)⟩) ?_
              (try simp only [u2r, false_and, and_false, true_and, and_true, ↓reduceIte, Nat.reduceEqDiff])
              refine x_if_ne 242 271 C dX12_refuses_239 rfl (by decide) (by first | exact hw.2.2.1 _ _ | exact hr0 _ _ | assumption | omega | exact ⟨by omega, by omega⟩) (fun h239 => ?_) (fun h239 => ?_)
              · skip
                refine x_iconst 272 C dX12_refuses_271 rfl ?_
                exact x_iret C dX12_refuses_272 (by first | rfl | exact nar_b _ | exact nar_01 (by first | assumption | omega | exact hw.2.2.2.2.1 _ _ rfl | exact hz0 _ _ rfl)) ⟨vi (by first | rfl | (simp [bI, rRefuses, rRf4, hK124, hK177, hK233, h239]; done) | (simp [bI, rRefuses, rRf4, hK124, hK177, hK233, h239] <;> omega) | (exfalso; simp_all; done)), rfl⟩
              · skip
                refine x_aload_n 243 C dX12_refuses_242 rfl rfl ?_
                refine x_iload_n 244 C dX12_refuses_243 rfl rfl ?_
                refine x_joinv 260 (fun vJ => vJ = if rOwnD R a = true then R 9 a.toNat else R 20 a.toNat) ?_ (fun hJ260 => ?_)
                · intro vJ hJ
                  subst hJ
                  refine x_iload_n 261 C dX12_refuses_260 rfl rfl ?_
                  refine x_Vr (As := [_, _, _]) 264 C vw_X12_282 iw_X12_isBarred sw_X12_isBarred (c_X12_isBarred hM hH hC hA hS (by omega) (by by_cases q : rOwnD R a = true; (rw [if_pos q]; omega); (rw [if_neg q]; have := hK124.2 (by simpa using q); omega)) (by assumption)) dX12_refuses_261 rfl rfl rfl rfl rfl rfl hM.1 ⟨Nat.le_of_ble_eq_true rfl, Nat.le_of_ble_eq_true rfl⟩ (Nat.le_of_ble_eq_true rfl) ?_
                  refine x_if_eqB 267 271 C dX12_refuses_264 rfl (by decide) (fun h264 => ?_) (fun h264 => ?_)
                  · skip
                    refine x_iconst 272 C dX12_refuses_271 rfl ?_
                    exact x_iret C dX12_refuses_272 (by first | rfl | exact nar_b _ | exact nar_01 (by first | assumption | omega | exact hw.2.2.2.2.1 _ _ rfl | exact hz0 _ _ rfl)) ⟨vi (by first | rfl | (simp [bI, rRefuses, rRf4, hK124, hK177, hK233, h239, h264]; done) | (simp [bI, rRefuses, rRf4, hK124, hK177, hK233, h239, h264] <;> omega) | (exfalso; simp_all; done)), rfl⟩
                  · skip
                    refine x_iconst 268 C dX12_refuses_267 rfl ?_
                    refine x_goto 272 C dX12_refuses_268 (by decide) ?_
                    exact x_iret C dX12_refuses_272 (by first | rfl | exact nar_b _ | exact nar_01 (by first | assumption | omega | exact hw.2.2.2.2.1 _ _ rfl | exact hz0 _ _ rfl)) ⟨vi (by first | rfl | (simp [bI, rRefuses, rRf4, hK124, hK177, hK233, h239, h264]; done) | (simp [bI, rRefuses, rRf4, hK124, hK177, hK233, h239, h264] <;> omega) | (exfalso; simp_all; done)), rfl⟩
                · skip
                  refine x_iload 246 C dX12_refuses_244 rfl rfl ?_
                  refine x_if_eqB 249 258 C dX12_refuses_246 rfl (by decide) (fun h246 => ?_) (fun h246 => ?_)
                  · skip
                    refine x_iload 260 C dX12_refuses_258 rfl rfl ?_
                    exact hJ260 _ (by first | (simp [bI, h246]; done) | (simp [bI, h246]; omega) | (simp [bI, h246] at *; omega))
                  · skip
                    refine x_aload_n 250 C dX12_refuses_249 rfl rfl ?_
                    refine x_mrow 253 9 C fr_X12_23 dX12_refuses_250 rfl rfl hM ?_
                    refine x_iload_n 254 C dX12_refuses_253 rfl rfl ?_
                    refine x_mldI 255 9 C dX12_refuses_254 rfl rfl hM (by first | exact hIx | exact ⟨by omega, Int.lt_of_lt_of_le (b := 24) (by omega) (by decide)⟩) ?_
                    (try simp only [u2r, false_and, and_false, true_and, and_true, ↓reduceIte, Nat.reduceEqDiff])
                    refine x_goto 260 C dX12_refuses_255 (by decide) ?_
                    exact hJ260 _ (by first | (simp [bI, h246]; done) | (simp [bI, h246]; omega) | (simp [bI, h246] at *; omega))
            · skip
              refine x_iload_n 178 C dX12_refuses_177 rfl rfl ?_
              refine x_bipush 180 C dX12_refuses_178 rfl (by decide) ?_
              refine x_Sr (As := [_, _]) 183 C vw_X12_263 tw_X12_has c_X12_has dX12_refuses_180 rfl rfl rfl ⟨Nat.le_of_ble_eq_true rfl, Nat.le_of_ble_eq_true rfl⟩ (Nat.le_of_ble_eq_true rfl) ?_
              refine x_if_eqB 186 201 C dX12_refuses_183 rfl (by decide) (fun h183 => ?_) (fun h183 => ?_)
              · skip
                refine x_iload 203 C dX12_refuses_201 rfl rfl ?_
                refine x_if_eqB 206 211 C dX12_refuses_203 rfl (by decide) (fun h203 => ?_) (fun h203 => ?_)
                · skip
                  refine x_iload_n 212 C dX12_refuses_211 rfl rfl ?_
                  refine x_iconst 213 C dX12_refuses_212 rfl ?_
                  refine x_Sr (As := [_, _]) 216 C vw_X12_263 tw_X12_has c_X12_has dX12_refuses_213 rfl rfl rfl ⟨Nat.le_of_ble_eq_true rfl, Nat.le_of_ble_eq_true rfl⟩ (Nat.le_of_ble_eq_true rfl) ?_
                  refine x_if_neB 219 233 C dX12_refuses_216 rfl (by decide) (fun h216 => ?_) (fun h216 => ?_)
                  · skip
                    exact hJ233 () (by first | (simp [rRf3, bI, h183, h203, h216]; done) | (exact ⟨by simp [rRf3, bI, h183, h203, h216], fun _ => hnd⟩) | (simp_all [rRf3]; done))
                  · skip
                    refine x_aload_n 220 C dX12_refuses_219 rfl rfl ?_
                    refine x_mget 223 2 C fr_X12_225 dX12_refuses_220 rfl rfl hM ?_
                    (try simp only [u2r, false_and, and_false, true_and, and_true, ↓reduceIte, Nat.reduceEqDiff])
                    refine x_if_eq 226 233 C dX12_refuses_223 rfl (by decide) (by first | exact hw.2.2.1 _ _ | exact hr0 _ _ | assumption | omega | exact ⟨by omega, by omega⟩) (fun h223 => ?_) (fun h223 => ?_)
                    · skip
                      exact hJ233 () (by first | (simp [rRf3, bI, h183, h203, h216, h223]; done) | (exact ⟨by simp [rRf3, bI, h183, h203, h216, h223], fun _ => hnd⟩) | (simp_all [rRf3]; done))
                    · skip
                      refine x_iload 228 C dX12_refuses_226 rfl rfl ?_
                      refine x_if_eqB 231 233 C dX12_refuses_228 rfl (by decide) (fun h228 => ?_) (fun h228 => ?_)
                      · skip
                        exact hJ233 () (by first | (simp [rRf3, bI, h183, h203, h216, h223, h228]; done) | (exact ⟨by simp [rRf3, bI, h183, h203, h216, h223, h228], fun _ => hnd⟩) | (simp_all [rRf3]; done))
                      · skip
                        refine x_iconst 232 C dX12_refuses_231 rfl ?_
                        exact x_iret C dX12_refuses_232 (by first | rfl | exact nar_b _ | exact nar_01 (by first | assumption | omega | exact hw.2.2.2.2.1 _ _ rfl | exact hz0 _ _ rfl)) ⟨vi (by first | rfl | (simp [bI, rRefuses, rRf3, hK124, hK177, h183, h203, h216, h223, h228]; done) | (simp [bI, rRefuses, rRf3, hK124, hK177, h183, h203, h216, h223, h228] <;> omega) | (exfalso; simp_all; done)), rfl⟩
                · skip
                  refine x_iload 208 C dX12_refuses_206 rfl rfl ?_
                  refine x_if_neB 211 231 C dX12_refuses_208 rfl (by decide) (fun h208 => ?_) (fun h208 => ?_)
                  · skip
                    refine x_iconst 232 C dX12_refuses_231 rfl ?_
                    exact x_iret C dX12_refuses_232 (by first | rfl | exact nar_b _ | exact nar_01 (by first | assumption | omega | exact hw.2.2.2.2.1 _ _ rfl | exact hz0 _ _ rfl)) ⟨vi (by first | rfl | (simp [bI, rRefuses, rRf3, hK124, hK177, h183, h203, h208]; done) | (simp [bI, rRefuses, rRf3, hK124, hK177, h183, h203, h208] <;> omega) | (exfalso; simp_all; done)), rfl⟩
                  · skip
                    refine x_iload_n 212 C dX12_refuses_211 rfl rfl ?_
                    refine x_iconst 213 C dX12_refuses_212 rfl ?_
                    refine x_Sr (As := [_, _]) 216 C vw_X12_263 tw_X12_has c_X12_has dX12_refuses_213 rfl rfl rfl ⟨Nat.le_of_ble_eq_true rfl, Nat.le_of_ble_eq_true rfl⟩ (Nat.le_of_ble_eq_true rfl) ?_
                    refine x_if_neB 219 233 C dX12_refuses_216 rfl (by decide) (fun h216 => ?_) (fun h216 => ?_)
                    · skip
                      exact hJ233 () (by first | (simp [rRf3, bI, h183, h203, h208, h216]; done) | (exact ⟨by simp [rRf3, bI, h183, h203, h208, h216], fun _ => hnd⟩) | (simp_all [rRf3]; done))
                    · skip
                      refine x_aload_n 220 C dX12_refuses_219 rfl rfl ?_
                      refine x_mget 223 2 C fr_X12_225 dX12_refuses_220 rfl rfl hM ?_
                      (try simp only [u2r, false_and, and_false, true_and, and_true, ↓reduceIte, Nat.reduceEqDiff])
                      refine x_if_eq 226 233 C dX12_refuses_223 rfl (by decide) (by first | exact hw.2.2.1 _ _ | exact hr0 _ _ | assumption | omega | exact ⟨by omega, by omega⟩) (fun h223 => ?_) (fun h223 => ?_)
                      · skip
                        exact hJ233 () (by first | (simp [rRf3, bI, h183, h203, h208, h216, h223]; done) | (exact ⟨by simp [rRf3, bI, h183, h203, h208, h216, h223], fun _ => hnd⟩) | (simp_all [rRf3]; done))
                      · skip
                        refine x_iload 228 C dX12_refuses_226 rfl rfl ?_
                        refine x_if_eqB 231 233 C dX12_refuses_228 rfl (by decide) (fun h228 => ?_) (fun h228 => ?_)
                        · skip
                          exact hJ233 () (by first | (simp [rRf3, bI, h183, h203, h208, h216, h223, h228]; done) | (exact ⟨by simp [rRf3, bI, h183, h203, h208, h216, h223, h228], fun _ => hnd⟩) | (simp_all [rRf3]; done))
                        · skip
                          refine x_iconst 232 C dX12_refuses_231 rfl ?_
                          exact x_iret C dX12_refuses_232 (by first | rfl | exact nar_b _ | exact nar_01 (by first | assumption | omega | exact hw.2.2.2.2.1 _ _ rfl | exact hz0 _ _ rfl)) ⟨vi (by first | rfl | (simp [bI, rRefuses, rRf3, hK124, hK177, h183, h203, h208, h216, h223, h228]; done) | (simp [bI, rRefuses, rRf3, hK124, hK177, h183, h203, h208, h216, h223, h228] <;> omega) | (exfalso; simp_all; done)), rfl⟩
              · skip
                refine x_iload 188 C dX12_refuses_186 rfl rfl ?_
                refine x_iconst 189 C dX12_refuses_188 rfl ?_
                refine x_icmp_ne 192 231 C dX12_refuses_189 rfl (by decide) (by first | exact hw.2.2.1 _ _ | exact hr0 _ _ | assumption | omega | exact ⟨by omega, by omega⟩) (by first | exact hw.2.2.1 _ _ | exact hr0 _ _ | assumption | omega | exact ⟨by omega, by omega⟩) (fun h189 => ?_) (fun h189 => ?_)
                · skip
                  refine x_iconst 232 C dX12_refuses_231 rfl ?_
                  exact x_iret C dX12_refuses_232 (by first | rfl | exact nar_b _ | exact nar_01 (by first | assumption | omega | exact hw.2.2.2.2.1 _ _ rfl | exact hz0 _ _ rfl)) ⟨vi (by first | rfl | (simp [bI, rRefuses, rRf3, hK124, hK177, h183, h189]; done) | (simp [bI, rRefuses, rRf3, hK124, hK177, h183, h189] <;> omega) | (exfalso; simp_all; done)), rfl⟩
                · skip
                  refine x_aload_n 193 C dX12_refuses_192 rfl rfl ?_
                  refine x_mrow 196 21 C fr_X12_59 dX12_refuses_193 rfl rfl hM ?_
                  refine x_iload_n 197 C dX12_refuses_196 rfl rfl ?_
                  refine x_mldI 198 21 C dX12_refuses_197 rfl rfl hM (by first | exact hIx | exact ⟨by omega, Int.lt_of_lt_of_le (b := 24) (by omega) (by decide)⟩) ?_
                  (try simp only [u2r, false_and, and_false, true_and, and_true, ↓reduceIte, Nat.reduceEqDiff])
                  refine x_if_ne 201 231 C dX12_refuses_198 rfl (by decide) (by first | exact hw.2.2.1 _ _ | exact hr0 _ _ | assumption | omega | exact ⟨by omega, by omega⟩) (fun h198 => ?_) (fun h198 => ?_)
                  · skip
                    refine x_iconst 232 C dX12_refuses_231 rfl ?_
                    exact x_iret C dX12_refuses_232 (by first | rfl | exact nar_b _ | exact nar_01 (by first | assumption | omega | exact hw.2.2.2.2.1 _ _ rfl | exact hz0 _ _ rfl)) ⟨vi (by first | rfl | (simp [bI, rRefuses, rRf3, hK124, hK177, h183, h189, h198]; done) | (simp [bI, rRefuses, rRf3, hK124, hK177, h183, h189, h198] <;> omega) | (exfalso; simp_all; done)), rfl⟩
                  · skip
                    refine x_iload 203 C dX12_refuses_201 rfl rfl ?_
                    refine x_if_eqB 206 211 C dX12_refuses_203 rfl (by decide) (fun h203 => ?_) (fun h203 => ?_)
                    · skip
                      refine x_iload_n 212 C dX12_refuses_211 rfl rfl ?_
                      refine x_iconst 213 C dX12_refuses_212 rfl ?_
                      refine x_Sr (As := [_, _]) 216 C vw_X12_263 tw_X12_has c_X12_has dX12_refuses_213 rfl rfl rfl ⟨Nat.le_of_ble_eq_true rfl, Nat.le_of_ble_eq_true rfl⟩ (Nat.le_of_ble_eq_true rfl) ?_
                      refine x_if_neB 219 233 C dX12_refuses_216 rfl (by decide) (fun h216 => ?_) (fun h216 => ?_)
                      · skip
                        exact hJ233 () (by first | (simp [rRf3, bI, h183, h189, h198, h203, h216]; done) | (exact ⟨by simp [rRf3, bI, h183, h189, h198, h203, h216], fun _ => hnd⟩) | (simp_all [rRf3]; done))
                      · skip
                        refine x_aload_n 220 C dX12_refuses_219 rfl rfl ?_
                        refine x_mget 223 2 C fr_X12_225 dX12_refuses_220 rfl rfl hM ?_
                        (try simp only [u2r, false_and, and_false, true_and, and_true, ↓reduceIte, Nat.reduceEqDiff])
                        refine x_if_eq 226 233 C dX12_refuses_223 rfl (by decide) (by first | exact hw.2.2.1 _ _ | exact hr0 _ _ | assumption | omega | exact ⟨by omega, by omega⟩) (fun h223 => ?_) (fun h223 => ?_)
                        · skip
                          exact hJ233 () (by first | (simp [rRf3, bI, h183, h189, h198, h203, h216, h223]; done) | (exact ⟨by simp [rRf3, bI, h183, h189, h198, h203, h216, h223], fun _ => hnd⟩) | (simp_all [rRf3]; done))
                        · skip
                          refine x_iload 228 C dX12_refuses_226 rfl rfl ?_
                          refine x_if_eqB 231 233 C dX12_refuses_228 rfl (by decide) (fun h228 => ?_) (fun h228 => ?_)
                          · skip
                            exact hJ233 () (by first | (simp [rRf3, bI, h183, h189, h198, h203, h216, h223, h228]; done) | (exact ⟨by simp [rRf3, bI, h183, h189, h198, h203, h216, h223, h228], fun _ => hnd⟩) | (simp_all [rRf3]; done))
                          · skip
                            refine x_iconst 232 C dX12_refuses_231 rfl ?_
                            exact x_iret C dX12_refuses_232 (by first | rfl | exact nar_b _ | exact nar_01 (by first | assumption | omega | exact hw.2.2.2.2.1 _ _ rfl | exact hz0 _ _ rfl)) ⟨vi (by first | rfl | (simp [bI, rRefuses, rRf3, hK124, hK177, h183, h189, h198, h203, h216, h223, h228]; done) | (simp [bI, rRefuses, rRf3, hK124, hK177, h183, h189, h198, h203, h216, h223, h228] <;> omega) | (exfalso; simp_all; done)), rfl⟩
                    · skip
                      refine x_iload 208 C dX12_refuses_206 rfl rfl ?_
                      refine x_if_neB 211 231 C dX12_refuses_208 rfl (by decide) (fun h208 => ?_) (fun h208 => ?_)
                      · skip
                        refine x_iconst 232 C dX12_refuses_231 rfl ?_
                        exact x_iret C dX12_refuses_232 (by first | rfl | exact nar_b _ | exact nar_01 (by first | assumption | omega | exact hw.2.2.2.2.1 _ _ rfl | exact hz0 _ _ rfl)) ⟨vi (by first | rfl | (simp [bI, rRefuses, rRf3, hK124, hK177, h183, h189, h198, h203, h208]; done) | (simp [bI, rRefuses, rRf3, hK124, hK177, h183, h189, h198, h203, h208] <;> omega) | (exfalso; simp_all; done)), rfl⟩
                      · skip
                        refine x_iload_n 212 C dX12_refuses_211 rfl rfl ?_
                        refine x_iconst 213 C dX12_refuses_212 rfl ?_
                        refine x_Sr (As := [_, _]) 216 C vw_X12_263 tw_X12_has c_X12_has dX12_refuses_213 rfl rfl rfl ⟨Nat.le_of_ble_eq_true rfl, Nat.le_of_ble_eq_true rfl⟩ (Nat.le_of_ble_eq_true rfl) ?_
                        refine x_if_neB 219 233 C dX12_refuses_216 rfl (by decide) (fun h216 => ?_) (fun h216 => ?_)
                        · skip
                          exact hJ233 () (by first | (simp [rRf3, bI, h183, h189, h198, h203, h208, h216]; done) | (exact ⟨by simp [rRf3, bI, h183, h189, h198, h203, h208, h216], fun _ => hnd⟩) | (simp_all [rRf3]; done))
                        · skip
                          refine x_aload_n 220 C dX12_refuses_219 rfl rfl ?_
                          refine x_mget 223 2 C fr_X12_225 dX12_refuses_220 rfl rfl hM ?_
                          (try simp only [u2r, false_and, and_false, true_and, and_true, ↓reduceIte, Nat.reduceEqDiff])
                          refine x_if_eq 226 233 C dX12_refuses_223 rfl (by decide) (by first | exact hw.2.2.1 _ _ | exact hr0 _ _ | assumption | omega | exact ⟨by omega, by omega⟩) (fun h223 => ?_) (fun h223 => ?_)
                          · skip
                            exact hJ233 () (by first | (simp [rRf3, bI, h183, h189, h198, h203, h208, h216, h223]; done) | (exact ⟨by simp [rRf3, bI, h183, h189, h198, h203, h208, h216, h223], fun _ => hnd⟩) | (simp_all [rRf3]; done))
                          · skip
                            refine x_iload 228 C dX12_refuses_226 rfl rfl ?_
                            refine x_if_eqB 231 233 C dX12_refuses_228 rfl (by decide) (fun h228 => ?_) (fun h228 => ?_)
                            · skip
                              exact hJ233 () (by first | (simp [rRf3, bI, h183, h189, h198, h203, h208, h216, h223, h228]; done) | (exact ⟨by simp [rRf3, bI, h183, h189, h198, h203, h208, h216, h223, h228], fun _ => hnd⟩) | (simp_all [rRf3]; done))
                            · skip
                              refine x_iconst 232 C dX12_refuses_231 rfl ?_
                              exact x_iret C dX12_refuses_232 (by first | rfl | exact nar_b _ | exact nar_01 (by first | assumption | omega | exact hw.2.2.2.2.1 _ _ rfl | exact hz0 _ _ rfl)) ⟨vi (by first | rfl | (simp [bI, rRefuses, rRf3, hK124, hK177, h183, h189, h198, h203, h208, h216, h223, h228]; done) | (simp [bI, rRefuses, rRf3, hK124, hK177, h183, h189, h198, h203, h208, h216, h223, h228] <;> omega) | (exfalso; simp_all; done)), rfl⟩
          · skip
            refine x_iload_n 125 C dX12_refuses_124 rfl rfl ?_
            refine x_iconst 126 C dX12_refuses_125 rfl ?_
            refine x_Sr (As := [_, _]) 129 C vw_X12_263 tw_X12_has c_X12_has dX12_refuses_126 rfl rfl rfl ⟨Nat.le_of_ble_eq_true rfl, Nat.le_of_ble_eq_true rfl⟩ (Nat.le_of_ble_eq_true rfl) ?_
            refine x_if_eqB 132 144 C dX12_refuses_129 rfl (by decide) (fun h129 => ?_) (fun h129 => ?_)
            · skip
              refine x_iload 146 C dX12_refuses_144 rfl rfl ?_
              refine x_if_eqB 149 175 C dX12_refuses_146 rfl (by decide) (fun h146 => ?_) (fun h146 => ?_)
              · skip
                refine x_iconst 176 C dX12_refuses_175 rfl ?_
                exact x_iret C dX12_refuses_176 (by first | rfl | exact nar_b _ | exact nar_01 (by first | assumption | omega | exact hw.2.2.2.2.1 _ _ rfl | exact hz0 _ _ rfl)) ⟨vi (by first | rfl | (simp [bI, rRefuses, rRf2, hK124, h129, h146]; done) | (simp [bI, rRefuses, rRf2, hK124, h129, h146] <;> omega) | (exfalso; simp_all; done)), rfl⟩
              · skip
                refine x_iload_n 150 C dX12_refuses_149 rfl rfl ?_
                refine x_iconst 151 C dX12_refuses_150 rfl ?_
                refine x_Sr (As := [_, _]) 154 C vw_X12_263 tw_X12_has c_X12_has dX12_refuses_151 rfl rfl rfl ⟨Nat.le_of_ble_eq_true rfl, Nat.le_of_ble_eq_true rfl⟩ (Nat.le_of_ble_eq_true rfl) ?_
                refine x_if_neB 157 175 C dX12_refuses_154 rfl (by decide) (fun h154 => ?_) (fun h154 => ?_)
                · skip
                  refine x_iconst 176 C dX12_refuses_175 rfl ?_
                  exact x_iret C dX12_refuses_176 (by first | rfl | exact nar_b _ | exact nar_01 (by first | assumption | omega | exact hw.2.2.2.2.1 _ _ rfl | exact hz0 _ _ rfl)) ⟨vi (by first | rfl | (simp [bI, rRefuses, rRf2, hK124, h129, h146, h154]; done) | (simp [bI, rRefuses, rRf2, hK124, h129, h146, h154] <;> omega) | (exfalso; simp_all; done)), rfl⟩
                · skip
                  refine x_iload_n 158 C dX12_refuses_157 rfl rfl ?_
                  refine x_bipush 160 C dX12_refuses_158 rfl (by decide) ?_
                  refine x_Sr (As := [_, _]) 163 C vw_X12_263 tw_X12_has c_X12_has dX12_refuses_160 rfl rfl rfl ⟨Nat.le_of_ble_eq_true rfl, Nat.le_of_ble_eq_true rfl⟩ (Nat.le_of_ble_eq_true rfl) ?_
                  refine x_if_neB 166 175 C dX12_refuses_163 rfl (by decide) (fun h163 => ?_) (fun h163 => ?_)
                  · skip
                    refine x_iconst 176 C dX12_refuses_175 rfl ?_
                    exact x_iret C dX12_refuses_176 (by first | rfl | exact nar_b _ | exact nar_01 (by first | assumption | omega | exact hw.2.2.2.2.1 _ _ rfl | exact hz0 _ _ rfl)) ⟨vi (by first | rfl | (simp [bI, rRefuses, rRf2, hK124, h129, h146, h154, h163]; done) | (simp [bI, rRefuses, rRf2, hK124, h129, h146, h154, h163] <;> omega) | (exfalso; simp_all; done)), rfl⟩
                  · skip
                    refine x_iload_n 167 C dX12_refuses_166 rfl rfl ?_
                    refine x_bipush 169 C dX12_refuses_167 rfl (by decide) ?_
                    refine x_Sr (As := [_, _]) 172 C vw_X12_263 tw_X12_has c_X12_has dX12_refuses_169 rfl rfl rfl ⟨Nat.le_of_ble_eq_true rfl, Nat.le_of_ble_eq_true rfl⟩ (Nat.le_of_ble_eq_true rfl) ?_
                    refine x_if_eqB 175 177 C dX12_refuses_172 rfl (by decide) (fun h172 => ?_) (fun h172 => ?_)
                    · skip
                      exact hJ177 () (by first | (simp [rRf2, bI, h129, h146, h154, h163, h172]; done) | (exact ⟨by simp [rRf2, bI, h129, h146, h154, h163, h172], fun _ => hnd⟩) | (simp_all [rRf2]; done))
                    · skip
                      refine x_iconst 176 C dX12_refuses_175 rfl ?_
                      exact x_iret C dX12_refuses_176 (by first | rfl | exact nar_b _ | exact nar_01 (by first | assumption | omega | exact hw.2.2.2.2.1 _ _ rfl | exact hz0 _ _ rfl)) ⟨vi (by first | rfl | (simp [bI, rRefuses, rRf2, hK124, h129, h146, h154, h163, h172]; done) | (simp [bI, rRefuses, rRf2, hK124, h129, h146, h154, h163, h172] <;> omega) | (exfalso; simp_all; done)), rfl⟩
            · skip
              refine x_aload_n 133 C dX12_refuses_132 rfl rfl ?_
              refine x_mrow 136 8 C fr_X12_20 dX12_refuses_133 rfl rfl hM ?_
              refine x_iload_n 137 C dX12_refuses_136 rfl rfl ?_
              refine x_mldI 138 8 C dX12_refuses_137 rfl rfl hM (by first | exact hIx | exact ⟨by omega, Int.lt_of_lt_of_le (b := 24) (by omega) (by decide)⟩) ?_
              (try simp only [u2r, false_and, and_false, true_and, and_true, ↓reduceIte, Nat.reduceEqDiff])
              refine x_if_ne 141 177 C dX12_refuses_138 rfl (by decide) (by first | exact hw.2.2.1 _ _ | exact hr0 _ _ | assumption | omega | exact ⟨by omega, by omega⟩) (fun h138 => ?_) (fun h138 => ?_)
              · skip
                exact hJ177 () (by first | (simp [rRf2, bI, h129, h138]; done) | (exact ⟨by simp [rRf2, bI, h129, h138], fun _ => hnd⟩) | (simp_all [rRf2]; done))
              · skip
                refine x_goto 175 C dX12_refuses_141 (by decide) ?_
                refine x_iconst 176 C dX12_refuses_175 rfl ?_
                exact x_iret C dX12_refuses_176 (by first | rfl | exact nar_b _ | exact nar_01 (by first | assumption | omega | exact hw.2.2.2.2.1 _ _ rfl | exact hz0 _ _ rfl)) ⟨vi (by first | rfl | (simp [bI, rRefuses, rRf2, hK124, h129, h138]; done) | (simp [bI, rRefuses, rRf2, hK124, h129, h138] <;> omega) | (exfalso; simp_all; done)), rfl⟩
        · skip
          refine x_iload 94 C dX12_refuses_92 rfl rfl ?_
          refine x_if_neB 97 124 C dX12_refuses_94 rfl (by decide) (fun h94 => ?_) (fun h94 => ?_)
          · skip
            exact hJ124 () (by first | (simp [rRf1, bI, h94]; done) | (exact ⟨by simp [rRf1, bI, h94], fun _ => hnd⟩) | (simp_all [rRf1]; done))
          · skip
            have hnd : ¬ R 20 a.toNat = -1 := fun z => by rw [rOwnD, z] at h94; simp at h94
            refine x_aload_n 98 C dX12_refuses_97 rfl rfl ?_
            refine x_aload_n 99 C dX12_refuses_98 rfl rfl ?_
            refine x_mrow 102 9 C fr_X12_23 dX12_refuses_99 rfl rfl hM ?_
            refine x_iload_n 103 C dX12_refuses_102 rfl rfl ?_
            refine x_mldI 104 9 C dX12_refuses_103 rfl rfl hM (by first | exact hIx | exact ⟨by omega, Int.lt_of_lt_of_le (b := 24) (by omega) (by decide)⟩) ?_
            refine x_iload 106 C dX12_refuses_104 rfl rfl ?_
            refine x_Vr (As := [_, _]) 109 C vw_X12_279 iw_X12_isIn sw_X12_isIn (c_X12_isIn hM hH (by omega) (by first | assumption | exact hr0 _ _ | omega)) dX12_refuses_106 rfl rfl rfl rfl rfl rfl hM.1 ⟨Nat.le_of_ble_eq_true rfl, Nat.le_of_ble_eq_true rfl⟩ (Nat.le_of_ble_eq_true rfl) ?_
            refine x_if_eqB 112 122 C dX12_refuses_109 rfl (by decide) (fun h109 => ?_) (fun h109 => ?_)
            · skip
              refine x_iconst 123 C dX12_refuses_122 rfl ?_
              exact x_iret C dX12_refuses_123 (by first | rfl | exact nar_b _ | exact nar_01 (by first | assumption | omega | exact hw.2.2.2.2.1 _ _ rfl | exact hz0 _ _ rfl)) ⟨vi (by first | rfl | (simp [bI, rRefuses, rRf1, h94, h109]; done) | (simp [bI, rRefuses, rRf1, h94, h109] <;> omega) | (exfalso; simp_all; done)), rfl⟩
            · skip
              refine x_aload_n 113 C dX12_refuses_112 rfl rfl ?_
              refine x_mrow 116 6 C fr_X12_16 dX12_refuses_113 rfl rfl hM ?_
              refine x_iload 118 C dX12_refuses_116 rfl rfl ?_
              refine x_mldZ 119 6 C dX12_refuses_118 rfl rfl hM (by first | exact hIx | exact ⟨by omega, Int.lt_of_lt_of_le (b := 16) (by omega) (by decide)⟩) ?_
              refine x_if_eq 122 124 C dX12_refuses_119 rfl (by decide) (by first | exact hw.2.2.1 _ _ | exact hr0 _ _ | assumption | omega | exact ⟨by omega, by omega⟩) (fun h119 => ?_) (fun h119 => ?_)
              · skip
                exact hJ124 () (by first | (simp [rRf1, bI, h94, h109, h119]; done) | (exact ⟨by simp [rRf1, bI, h94, h109, h119], fun _ => hnd⟩) | (simp_all [rRf1]; done))
              · skip
                refine x_iconst 123 C dX12_refuses_122 rfl ?_
                exact x_iret C dX12_refuses_123 (by first | rfl | exact nar_b _ | exact nar_01 (by first | assumption | omega | exact hw.2.2.2.2.1 _ _ rfl | exact hz0 _ _ rfl)) ⟨vi (by first | rfl | (simp [bI, rRefuses, rRf1, h94, h109, h119]; done) | (simp [bI, rRefuses, rRf1, h94, h109, h119] <;> omega) | (exfalso; simp_all; done)), rfl⟩
      · skip
        refine x_aload_n 71 C dX12_refuses_70 rfl rfl ?_
        refine x_mget 74 68 C fr_X12_273 dX12_refuses_71 rfl rfl hM ?_
        refine x_if_eq 77 89 C dX12_refuses_74 rfl (by decide) (by first | exact hw.2.2.1 _ _ | exact hr0 _ _ | assumption | omega | exact ⟨by omega, by omega⟩) (fun h74 => ?_) (fun h74 => ?_)
        · skip
          refine x_iconst 90 C dX12_refuses_89 rfl ?_
          exact hJ90 _ (by first | (simp [bI, rStrg, h74]; done) | (simp [bI, rStrg, h74]; omega) | (simp [bI, rStrg, h74] at *; omega))
        · skip
          refine x_aload_n 78 C dX12_refuses_77 rfl rfl ?_
          refine x_mget 81 62 C fr_X12_276 dX12_refuses_78 rfl rfl hM ?_
          refine x_iconst 82 C dX12_refuses_81 rfl ?_
          refine x_icmp_eq 85 89 C dX12_refuses_82 rfl (by decide) (by first | exact hw.2.2.1 _ _ | exact hr0 _ _ | assumption | omega | exact ⟨by omega, by omega⟩) (by first | exact hw.2.2.1 _ _ | exact hr0 _ _ | assumption | omega | exact ⟨by omega, by omega⟩) (fun h82 => ?_) (fun h82 => ?_)
          · skip
            refine x_iconst 90 C dX12_refuses_89 rfl ?_
            exact hJ90 _ (by first | (simp [bI, rStrg, h74, h82]; done) | (simp [bI, rStrg, h74, h82]; omega) | (simp [bI, rStrg, h74, h82] at *; omega))
          · skip
            refine x_iconst 86 C dX12_refuses_85 rfl ?_
            refine x_goto 90 C dX12_refuses_86 (by decide) ?_
            exact hJ90 _ (by first | (simp [bI, rStrg, h74, h82]; done) | (simp [bI, rStrg, h74, h82]; omega) | (simp [bI, rStrg, h74, h82] at *; omega))
    · skip
      refine x_iload_n 50 C dX12_refuses_49 rfl rfl ?_
      refine x_Sr (As := [_]) 53 C vw_X12_267 tw_X12_isLax c_X12_isLax dX12_refuses_50 rfl rfl rfl ⟨Nat.le_of_ble_eq_true rfl, Nat.le_of_ble_eq_true rfl⟩ (Nat.le_of_ble_eq_true rfl) ?_
      refine x_if_neB 56 63 C dX12_refuses_53 rfl (by decide) (fun h53 => ?_) (fun h53 => ?_)
      · skip
        refine x_iconst 64 C dX12_refuses_63 rfl ?_
        refine x_goto 68 C dX12_refuses_64 (by decide) ?_
        exact hJ68 _ (by first | (simp [bI, rKind, h53]; done) | (simp [bI, rKind, h53]; omega) | (simp [bI, rKind, h53] at *; omega))
      · skip
        refine x_iload_n 57 C dX12_refuses_56 rfl rfl ?_
        refine x_Sr (As := [_]) 60 C vw_X12_270 tw_X12_isStrict c_X12_isStrict dX12_refuses_57 rfl rfl rfl ⟨Nat.le_of_ble_eq_true rfl, Nat.le_of_ble_eq_true rfl⟩ (Nat.le_of_ble_eq_true rfl) ?_
        refine x_if_eqB 63 67 C dX12_refuses_60 rfl (by decide) (fun h60 => ?_) (fun h60 => ?_)
        · skip
          refine x_iconst 68 C dX12_refuses_67 rfl ?_
          exact hJ68 _ (by first | (simp [bI, rKind, h53, h60]; done) | (simp [bI, rKind, h53, h60]; omega) | (simp [bI, rKind, h53, h60] at *; omega))
        · skip
          refine x_iconst 64 C dX12_refuses_63 rfl ?_
          refine x_goto 68 C dX12_refuses_64 (by decide) ?_
          exact hJ68 _ (by first | (simp [bI, rKind, h53, h60]; done) | (simp [bI, rKind, h53, h60]; omega) | (simp [bI, rKind, h53, h60] at *; omega))
  · skip
    refine x_iload 17 C dX12_refuses_15 rfl rfl ?_
    refine x_iconst 18 C dX12_refuses_17 rfl ?_
    refine x_icmp_eq 21 42 C dX12_refuses_18 rfl (by decide) (by first | exact hw.2.2.1 _ _ | exact hr0 _ _ | assumption | omega | exact ⟨by omega, by omega⟩) (by first | exact hw.2.2.1 _ _ | exact hr0 _ _ | assumption | omega | exact ⟨by omega, by omega⟩) (fun h18 => ?_) (fun h18 => ?_)
    · skip
      refine x_iconst 43 C dX12_refuses_42 rfl ?_
      refine x_goto 47 C dX12_refuses_43 (by decide) ?_
      exact hJ47 _ (by first | (simp [bI, rOwnD, h18]; done) | (simp [bI, rOwnD, h18]; omega) | (simp [bI, rOwnD, h18] at *; omega))
    · skip
      refine x_aload_n 22 C dX12_refuses_21 rfl rfl ?_
      refine x_mrow 25 6 C fr_X12_16 dX12_refuses_22 rfl rfl hM ?_
      refine x_iload 27 C dX12_refuses_25 rfl rfl ?_
      refine x_mldZ 28 6 C dX12_refuses_27 rfl rfl hM (by first | exact hIx | exact ⟨by omega, Int.lt_of_lt_of_le (b := 16) (by omega) (by decide)⟩) ?_
      refine x_if_eq 31 46 C dX12_refuses_28 rfl (by decide) (by first | exact hw.2.2.1 _ _ | exact hr0 _ _ | assumption | omega | exact ⟨by omega, by omega⟩) (fun h28 => ?_) (fun h28 => ?_)
      · skip
        refine x_iconst 47 C dX12_refuses_46 rfl ?_
        exact hJ47 _ (by first | (simp [bI, rOwnD, h18, h28]; done) | (simp [bI, rOwnD, h18, h28]; omega) | (simp [bI, rOwnD, h18, h28] at *; omega))
      · skip
        refine x_iload 33 C dX12_refuses_31 rfl rfl ?_
        refine x_aload_n 34 C dX12_refuses_33 rfl rfl ?_
        refine x_mrow 37 9 C fr_X12_23 dX12_refuses_34 rfl rfl hM ?_
        refine x_iload_n 38 C dX12_refuses_37 rfl rfl ?_
        refine x_mldI 39 9 C dX12_refuses_38 rfl rfl hM (by first | exact hIx | exact ⟨by omega, Int.lt_of_lt_of_le (b := 24) (by omega) (by decide)⟩) ?_
        refine x_icmp_ne 42 46 C dX12_refuses_39 rfl (by decide) (by first | exact hw.2.2.1 _ _ | exact hr0 _ _ | assumption | omega | exact ⟨by omega, by omega⟩) (by first | exact hw.2.2.1 _ _ | exact hr0 _ _ | assumption | omega | exact ⟨by omega, by omega⟩) (fun h39 => ?_) (fun h39 => ?_)
        · skip
          refine x_iconst 47 C dX12_refuses_46 rfl ?_
          exact hJ47 _ (by first | (simp [bI, rOwnD, h18, h28, h39]; done) | (simp [bI, rOwnD, h18, h28, h39]; omega) | (simp [bI, rOwnD, h18, h28, h39] at *; omega))
        · skip
          refine x_iconst 43 C dX12_refuses_42 rfl ?_
          refine x_goto 47 C dX12_refuses_43 (by decide) ?_
          exact hJ47 _ (by first | (simp [bI, rOwnD, h18, h28, h39]; done) | (simp [bI, rOwnD, h18, h28, h39]; omega) | (simp [bI, rOwnD, h18, h28, h39] at *; omega))
set_option maxHeartbeats 4000000 in
set_option maxRecDepth 100000 in
theorem c_X12_goes {E : EV} {l : Launch} {G : GT} {R : RT} {o : Nat} {k a w : Int} (hM : RM G o) (hH : RH R) (hC : RC R) (hA : RA R) (hD : RAd R) (h0 : 0 ≤ k ∧ k < R 34 0) (h1 : 0 ≤ a ∧ a < R 7 0) (h3 : InR w) : MT E l yX12_goes cX12_goes 8 (some .boolean) 2 43 0 0 [.ref o, .int (i32 k), .int (i32 a), .int (i32 w)] (wR G R) (pD (some (.int (i32 (bI (rGoes R k a w))))) (wR G (R))) := by
  refine mt_of (own := RX12) (L := [some (.ref o), some (.int (i32 k)), some (.int (i32 a)), some (.int (i32 w)), none, none, none, none]) (by decide +kernel) rfl (Nat.le_of_ble_eq_true rfl) (List.forall_mem_cons.mpr ⟨rfl, (List.forall_mem_cons.mpr ⟨rfl, (List.forall_mem_cons.mpr ⟨rfl, (List.forall_mem_cons.mpr ⟨rfl, (fun _ h => absurd h List.not_mem_nil)⟩)⟩)⟩)⟩) rfl ?_
  intro p e s m args below meth c C hin
  refine x_wf (fun hw => ?_)
  have hr0 : ∀ k j, InR (R k j) := hw.2.2.1
  have hz0 : ∀ k j, mZ k = true → R k j = 0 ∨ R k j = 1 := hw.2.2.2.2.1
  have hh := hA.1
  have hh2 := hA.2
  have hh0 := hH.1
  have hh := hC.1
  obtain ⟨c1, c2, c3, c4⟩ := hC.2 k.toNat (by omega)
  obtain ⟨d1, d2, d3, d4, d5, d6, d7, d8⟩ := hD a.toNat (by omega)
  refine x_joinv 48 (fun vJ => vJ = bI (rThere R k a)) ?_ (fun hJ48 => ?_)
  · intro vJ hJ
    subst hJ
    refine x_istore 50 C dX12_goes_48 rfl rfl rfl ?_
    refine x_joinv 121 (fun vJ => vJ = bI (rFits R k a w)) ?_ (fun hJ121 => ?_)
    · intro vJ hJ
      subst hJ
      refine x_istore 123 C dX12_goes_121 rfl rfl rfl ?_
      refine x_joinv 152 (fun vJ => vJ = bI (!rKind (R 40 k.toNat))) ?_ (fun hJ152 => ?_)
      · intro vJ hJ
        subst hJ
        refine x_istore 154 C dX12_goes_152 rfl rfl rfl ?_
        refine x_joinv 198 (fun vJ => vJ = bI (rComes R k)) ?_ (fun hJ198 => ?_)
        · intro vJ hJ
          subst hJ
          refine x_istore 200 C dX12_goes_198 rfl rfl rfl ?_
          refine x_iload 202 C dX12_goes_200 rfl rfl ?_
          refine x_if_eqB 205 246 C dX12_goes_202 rfl (by decide) (fun h202 => ?_) (fun h202 => ?_)
          · skip
            refine x_iconst 247 C dX12_goes_246 rfl ?_
            exact x_iret C dX12_goes_247 (by first | rfl | exact nar_b _ | exact nar_01 (by first | assumption | omega | exact hw.2.2.2.2.1 _ _ rfl | exact hz0 _ _ rfl)) ⟨vi (by first | rfl | (simp [bI, rGoes, h202]; done) | (simp [bI, rGoes, h202] <;> omega) | (exfalso; simp_all; done)), rfl⟩
          · skip
            refine x_iload 207 C dX12_goes_205 rfl rfl ?_
            refine x_if_eqB 210 246 C dX12_goes_207 rfl (by decide) (fun h207 => ?_) (fun h207 => ?_)
            · skip
              refine x_iconst 247 C dX12_goes_246 rfl ?_
              exact x_iret C dX12_goes_247 (by first | rfl | exact nar_b _ | exact nar_01 (by first | assumption | omega | exact hw.2.2.2.2.1 _ _ rfl | exact hz0 _ _ rfl)) ⟨vi (by first | rfl | (simp [bI, rGoes, h202, h207]; done) | (simp [bI, rGoes, h202, h207] <;> omega) | (exfalso; simp_all; done)), rfl⟩
            · skip
              refine x_aload_n 211 C dX12_goes_210 rfl rfl ?_
              refine x_mget 214 2 C fr_X12_225 dX12_goes_211 rfl rfl hM ?_
              refine x_if_eq 217 242 C dX12_goes_214 rfl (by decide) (by first | exact hw.2.2.1 _ _ | exact hr0 _ _ | assumption | omega | exact ⟨by omega, by omega⟩) (fun h214 => ?_) (fun h214 => ?_)
              · skip
                refine x_iconst 243 C dX12_goes_242 rfl ?_
                refine x_goto 247 C dX12_goes_243 (by decide) ?_
                exact x_iret C dX12_goes_247 (by first | rfl | exact nar_b _ | exact nar_01 (by first | assumption | omega | exact hw.2.2.2.2.1 _ _ rfl | exact hz0 _ _ rfl)) ⟨vi (by first | rfl | (simp [bI, rGoes, h202, h207, h214]; done) | (simp [bI, rGoes, h202, h207, h214] <;> omega) | (exfalso; simp_all; done)), rfl⟩
              · skip
                refine x_aload_n 218 C dX12_goes_217 rfl rfl ?_
                refine x_mget 221 68 C fr_X12_273 dX12_goes_218 rfl rfl hM ?_
                refine x_if_eq 224 242 C dX12_goes_221 rfl (by decide) (by first | exact hw.2.2.1 _ _ | exact hr0 _ _ | assumption | omega | exact ⟨by omega, by omega⟩) (fun h221 => ?_) (fun h221 => ?_)
                · skip
                  refine x_iconst 243 C dX12_goes_242 rfl ?_
                  refine x_goto 247 C dX12_goes_243 (by decide) ?_
                  exact x_iret C dX12_goes_247 (by first | rfl | exact nar_b _ | exact nar_01 (by first | assumption | omega | exact hw.2.2.2.2.1 _ _ rfl | exact hz0 _ _ rfl)) ⟨vi (by first | rfl | (simp [bI, rGoes, h202, h207, h214, h221]; done) | (simp [bI, rGoes, h202, h207, h214, h221] <;> omega) | (exfalso; simp_all; done)), rfl⟩
                · skip
                  refine x_aload_n 225 C dX12_goes_224 rfl rfl ?_
                  refine x_mget 228 62 C fr_X12_276 dX12_goes_225 rfl rfl hM ?_
                  refine x_iconst 229 C dX12_goes_228 rfl ?_
                  refine x_icmp_eq 232 242 C dX12_goes_229 rfl (by decide) (by first | exact hw.2.2.1 _ _ | exact hr0 _ _ | assumption | omega | exact ⟨by omega, by omega⟩) (by first | exact hw.2.2.1 _ _ | exact hr0 _ _ | assumption | omega | exact ⟨by omega, by omega⟩) (fun h229 => ?_) (fun h229 => ?_)
                  · skip
                    refine x_iconst 243 C dX12_goes_242 rfl ?_
                    refine x_goto 247 C dX12_goes_243 (by decide) ?_
                    exact x_iret C dX12_goes_247 (by first | rfl | exact nar_b _ | exact nar_01 (by first | assumption | omega | exact hw.2.2.2.2.1 _ _ rfl | exact hz0 _ _ rfl)) ⟨vi (by first | rfl | (simp [bI, rGoes, h202, h207, h214, h221, h229]; done) | (simp [bI, rGoes, h202, h207, h214, h221, h229] <;> omega) | (exfalso; simp_all; done)), rfl⟩
                  · skip
                    refine x_aload_n 233 C dX12_goes_232 rfl rfl ?_
                    refine x_mrow 236 41 C fr_X12_110 dX12_goes_233 rfl rfl hM ?_
                    refine x_iload_n 237 C dX12_goes_236 rfl rfl ?_
                    refine x_mldI 238 41 C dX12_goes_237 rfl rfl hM (by first | exact hIx | exact ⟨by omega, Int.lt_of_lt_of_le (b := 12) (by omega) (by decide)⟩) ?_
                    refine x_iconst 239 C dX12_goes_238 rfl ?_
                    refine x_icmp_eq 242 246 C dX12_goes_239 rfl (by decide) (by first | exact hw.2.2.1 _ _ | exact hr0 _ _ | assumption | omega | exact ⟨by omega, by omega⟩) (by first | exact hw.2.2.1 _ _ | exact hr0 _ _ | assumption | omega | exact ⟨by omega, by omega⟩) (fun h239 => ?_) (fun h239 => ?_)
                    · skip
                      refine x_iconst 247 C dX12_goes_246 rfl ?_
                      exact x_iret C dX12_goes_247 (by first | rfl | exact nar_b _ | exact nar_01 (by first | assumption | omega | exact hw.2.2.2.2.1 _ _ rfl | exact hz0 _ _ rfl)) ⟨vi (by first | rfl | (simp [bI, rGoes, h202, h207, h214, h221, h229, h239]; done) | (simp [bI, rGoes, h202, h207, h214, h221, h229, h239] <;> omega) | (exfalso; simp_all; done)), rfl⟩
                    · skip
                      refine x_iconst 243 C dX12_goes_242 rfl ?_
                      refine x_goto 247 C dX12_goes_243 (by decide) ?_
                      exact x_iret C dX12_goes_247 (by first | rfl | exact nar_b _ | exact nar_01 (by first | assumption | omega | exact hw.2.2.2.2.1 _ _ rfl | exact hz0 _ _ rfl)) ⟨vi (by first | rfl | (simp [bI, rGoes, h202, h207, h214, h221, h229, h239]; done) | (simp [bI, rGoes, h202, h207, h214, h221, h229, h239] <;> omega) | (exfalso; simp_all; done)), rfl⟩
        · skip
          refine x_aload_n 155 C dX12_goes_154 rfl rfl ?_
          refine x_mget 158 68 C fr_X12_273 dX12_goes_155 rfl rfl hM ?_
          refine x_if_eq 161 193 C dX12_goes_158 rfl (by decide) (by first | exact hw.2.2.1 _ _ | exact hr0 _ _ | assumption | omega | exact ⟨by omega, by omega⟩) (fun h158 => ?_) (fun h158 => ?_)
          · skip
            refine x_iconst 194 C dX12_goes_193 rfl ?_
            refine x_goto 198 C dX12_goes_194 (by decide) ?_
            exact hJ198 _ (by first | (simp [bI, rComes, h158]; done) | (simp [bI, rComes, h158]; omega) | (simp [bI, rComes, h158] at *; omega))
          · skip
            refine x_iload 163 C dX12_goes_161 rfl rfl ?_
            refine x_if_neB 166 193 C dX12_goes_163 rfl (by decide) (fun h163 => ?_) (fun h163 => ?_)
            · skip
              refine x_iconst 194 C dX12_goes_193 rfl ?_
              refine x_goto 198 C dX12_goes_194 (by decide) ?_
              exact hJ198 _ (by first | (simp [bI, rComes, h158, h163]; done) | (simp [bI, rComes, h158, h163]; omega) | (simp [bI, rComes, h158, h163] at *; omega))
            · skip
              refine x_aload_n 167 C dX12_goes_166 rfl rfl ?_
              refine x_mrow 170 40 C fr_X12_107 dX12_goes_167 rfl rfl hM ?_
              refine x_iload_n 171 C dX12_goes_170 rfl rfl ?_
              refine x_mldI 172 40 C dX12_goes_171 rfl rfl hM (by first | exact hIx | exact ⟨by omega, Int.lt_of_lt_of_le (b := 12) (by omega) (by decide)⟩) ?_
              refine x_Sr (As := [_]) 175 C vw_X12_267 tw_X12_isLax c_X12_isLax dX12_goes_172 rfl rfl rfl ⟨Nat.le_of_ble_eq_true rfl, Nat.le_of_ble_eq_true rfl⟩ (Nat.le_of_ble_eq_true rfl) ?_
              refine x_if_eqB 178 197 C dX12_goes_175 rfl (by decide) (fun h175 => ?_) (fun h175 => ?_)
              · skip
                refine x_iconst 198 C dX12_goes_197 rfl ?_
                exact hJ198 _ (by first | (simp [bI, rComes, h158, h163, h175]; done) | (simp [bI, rComes, h158, h163, h175]; omega) | (simp [bI, rComes, h158, h163, h175] at *; omega))
              · skip
                refine x_aload_n 179 C dX12_goes_178 rfl rfl ?_
                refine x_mget 182 62 C fr_X12_276 dX12_goes_179 rfl rfl hM ?_
                refine x_iconst 183 C dX12_goes_182 rfl ?_
                refine x_icmp_ne 186 197 C dX12_goes_183 rfl (by decide) (by first | exact hw.2.2.1 _ _ | exact hr0 _ _ | assumption | omega | exact ⟨by omega, by omega⟩) (by first | exact hw.2.2.1 _ _ | exact hr0 _ _ | assumption | omega | exact ⟨by omega, by omega⟩) (fun h183 => ?_) (fun h183 => ?_)
                · skip
                  refine x_iconst 198 C dX12_goes_197 rfl ?_
                  exact hJ198 _ (by first | (simp [bI, rComes, h158, h163, h175, h183]; done) | (simp [bI, rComes, h158, h163, h175, h183]; omega) | (simp [bI, rComes, h158, h163, h175, h183] at *; omega))
                · skip
                  refine x_aload_n 187 C dX12_goes_186 rfl rfl ?_
                  refine x_mget 190 66 C fr_X12_306 dX12_goes_187 rfl rfl hM ?_
                  refine x_if_ne 193 197 C dX12_goes_190 rfl (by decide) (by first | exact hw.2.2.1 _ _ | exact hr0 _ _ | assumption | omega | exact ⟨by omega, by omega⟩) (fun h190 => ?_) (fun h190 => ?_)
                  · skip
                    refine x_iconst 198 C dX12_goes_197 rfl ?_
                    exact hJ198 _ (by first | (simp [bI, rComes, h158, h163, h175, h183, h190]; done) | (simp [bI, rComes, h158, h163, h175, h183, h190]; omega) | (simp [bI, rComes, h158, h163, h175, h183, h190] at *; omega))
                  · skip
                    refine x_iconst 194 C dX12_goes_193 rfl ?_
                    refine x_goto 198 C dX12_goes_194 (by decide) ?_
                    exact hJ198 _ (by first | (simp [bI, rComes, h158, h163, h175, h183, h190]; done) | (simp [bI, rComes, h158, h163, h175, h183, h190]; omega) | (simp [bI, rComes, h158, h163, h175, h183, h190] at *; omega))
      · skip
        refine x_aload_n 124 C dX12_goes_123 rfl rfl ?_
        refine x_mrow 127 40 C fr_X12_107 dX12_goes_124 rfl rfl hM ?_
        refine x_iload_n 128 C dX12_goes_127 rfl rfl ?_
        refine x_mldI 129 40 C dX12_goes_128 rfl rfl hM (by first | exact hIx | exact ⟨by omega, Int.lt_of_lt_of_le (b := 12) (by omega) (by decide)⟩) ?_
        refine x_Sr (As := [_]) 132 C vw_X12_267 tw_X12_isLax c_X12_isLax dX12_goes_129 rfl rfl rfl ⟨Nat.le_of_ble_eq_true rfl, Nat.le_of_ble_eq_true rfl⟩ (Nat.le_of_ble_eq_true rfl) ?_
        refine x_if_neB 135 151 C dX12_goes_132 rfl (by decide) (fun h132 => ?_) (fun h132 => ?_)
        · skip
          refine x_iconst 152 C dX12_goes_151 rfl ?_
          exact hJ152 _ (by first | (simp [bI, rKind, h132]; done) | (simp [bI, rKind, h132]; omega) | (simp [bI, rKind, h132] at *; omega))
        · skip
          refine x_aload_n 136 C dX12_goes_135 rfl rfl ?_
          refine x_mrow 139 40 C fr_X12_107 dX12_goes_136 rfl rfl hM ?_
          refine x_iload_n 140 C dX12_goes_139 rfl rfl ?_
          refine x_mldI 141 40 C dX12_goes_140 rfl rfl hM (by first | exact hIx | exact ⟨by omega, Int.lt_of_lt_of_le (b := 12) (by omega) (by decide)⟩) ?_
          refine x_Sr (As := [_]) 144 C vw_X12_270 tw_X12_isStrict c_X12_isStrict dX12_goes_141 rfl rfl rfl ⟨Nat.le_of_ble_eq_true rfl, Nat.le_of_ble_eq_true rfl⟩ (Nat.le_of_ble_eq_true rfl) ?_
          refine x_if_neB 147 151 C dX12_goes_144 rfl (by decide) (fun h144 => ?_) (fun h144 => ?_)
          · skip
            refine x_iconst 152 C dX12_goes_151 rfl ?_
            exact hJ152 _ (by first | (simp [bI, rKind, h132, h144]; done) | (simp [bI, rKind, h132, h144]; omega) | (simp [bI, rKind, h132, h144] at *; omega))
          · skip
            refine x_iconst 148 C dX12_goes_147 rfl ?_
            refine x_goto 152 C dX12_goes_148 (by decide) ?_
            exact hJ152 _ (by first | (simp [bI, rKind, h132, h144]; done) | (simp [bI, rKind, h132, h144]; omega) | (simp [bI, rKind, h132, h144] at *; omega))
    · skip
      refine x_iload 52 C dX12_goes_50 rfl rfl ?_
      refine x_if_eqB 55 120 C dX12_goes_52 rfl (by decide) (fun h52 => ?_) (fun h52 => ?_)
      · skip
        refine x_iconst 121 C dX12_goes_120 rfl ?_
        exact hJ121 _ (by first | (simp [bI, rFits, h52]; done) | (simp [bI, rFits, h52]; omega) | (simp [bI, rFits, h52] at *; omega))
      · skip
        refine x_aload_n 56 C dX12_goes_55 rfl rfl ?_
        refine x_mrow 59 39 C fr_X12_104 dX12_goes_56 rfl rfl hM ?_
        refine x_iload_n 60 C dX12_goes_59 rfl rfl ?_
        refine x_mldI 61 39 C dX12_goes_60 rfl rfl hM (by first | exact hIx | exact ⟨by omega, Int.lt_of_lt_of_le (b := 12) (by omega) (by decide)⟩) ?_
        refine x_aload_n 62 C dX12_goes_61 rfl rfl ?_
        refine x_mrow 65 11 C fr_X12_29 dX12_goes_62 rfl rfl hM ?_
        refine x_iload_n 66 C dX12_goes_65 rfl rfl ?_
        refine x_mldI 67 11 C dX12_goes_66 rfl rfl hM (by first | exact hIx | exact ⟨by omega, Int.lt_of_lt_of_le (b := 24) (by omega) (by decide)⟩) ?_
        refine x_Sr (As := [_, _]) 70 C vw_X12_285 tw_X12_begins (c_X12_begins (by first | assumption | omega) (by omega)) dX12_goes_67 rfl rfl rfl ⟨Nat.le_of_ble_eq_true rfl, Nat.le_of_ble_eq_true rfl⟩ (Nat.le_of_ble_eq_true rfl) ?_
        refine x_if_eqB 73 120 C dX12_goes_70 rfl (by decide) (fun h70 => ?_) (fun h70 => ?_)
        · skip
          refine x_iconst 121 C dX12_goes_120 rfl ?_
          exact hJ121 _ (by first | (simp [bI, rFits, h52, h70]; done) | (simp [bI, rFits, h52, h70]; omega) | (simp [bI, rFits, h52, h70] at *; omega))
        · skip
          refine x_aload_n 74 C dX12_goes_73 rfl rfl ?_
          refine x_mrow 77 40 C fr_X12_107 dX12_goes_74 rfl rfl hM ?_
          refine x_iload_n 78 C dX12_goes_77 rfl rfl ?_
          refine x_mldI 79 40 C dX12_goes_78 rfl rfl hM (by first | exact hIx | exact ⟨by omega, Int.lt_of_lt_of_le (b := 12) (by omega) (by decide)⟩) ?_
          refine x_iconst 80 C dX12_goes_79 rfl ?_
          refine x_Sr (As := [_, _]) 83 C vw_X12_263 tw_X12_has c_X12_has dX12_goes_80 rfl rfl rfl ⟨Nat.le_of_ble_eq_true rfl, Nat.le_of_ble_eq_true rfl⟩ (Nat.le_of_ble_eq_true rfl) ?_
          refine x_if_eqB 86 96 C dX12_goes_83 rfl (by decide) (fun h83 => ?_) (fun h83 => ?_)
          · skip
            refine x_aload_n 97 C dX12_goes_96 rfl rfl ?_
            refine x_mrow 100 41 C fr_X12_110 dX12_goes_97 rfl rfl hM ?_
            refine x_iload_n 101 C dX12_goes_100 rfl rfl ?_
            refine x_mldI 102 41 C dX12_goes_101 rfl rfl hM (by first | exact hIx | exact ⟨by omega, Int.lt_of_lt_of_le (b := 12) (by omega) (by decide)⟩) ?_
            refine x_iconst 103 C dX12_goes_102 rfl ?_
            refine x_icmp_eq 106 116 C dX12_goes_103 rfl (by decide) (by first | exact hw.2.2.1 _ _ | exact hr0 _ _ | assumption | omega | exact ⟨by omega, by omega⟩) (by first | exact hw.2.2.1 _ _ | exact hr0 _ _ | assumption | omega | exact ⟨by omega, by omega⟩) (fun h103 => ?_) (fun h103 => ?_)
            · skip
              refine x_iconst 117 C dX12_goes_116 rfl ?_
              refine x_goto 121 C dX12_goes_117 (by decide) ?_
              exact hJ121 _ (by first | (simp [bI, rFits, h52, h70, h83, h103]; done) | (simp [bI, rFits, h52, h70, h83, h103]; omega) | (simp [bI, rFits, h52, h70, h83, h103] at *; omega))
            · skip
              refine x_aload_n 107 C dX12_goes_106 rfl rfl ?_
              refine x_mrow 110 41 C fr_X12_110 dX12_goes_107 rfl rfl hM ?_
              refine x_iload_n 111 C dX12_goes_110 rfl rfl ?_
              refine x_mldI 112 41 C dX12_goes_111 rfl rfl hM (by first | exact hIx | exact ⟨by omega, Int.lt_of_lt_of_le (b := 12) (by omega) (by decide)⟩) ?_
              refine x_iload_n 113 C dX12_goes_112 rfl rfl ?_
              refine x_icmp_ne 116 120 C dX12_goes_113 rfl (by decide) (by first | exact hw.2.2.1 _ _ | exact hr0 _ _ | assumption | omega | exact ⟨by omega, by omega⟩) (by first | exact hw.2.2.1 _ _ | exact hr0 _ _ | assumption | omega | exact ⟨by omega, by omega⟩) (fun h113 => ?_) (fun h113 => ?_)
              · skip
                refine x_iconst 121 C dX12_goes_120 rfl ?_
                exact hJ121 _ (by first | (simp [bI, rFits, h52, h70, h83, h103, h113]; done) | (simp [bI, rFits, h52, h70, h83, h103, h113]; omega) | (simp [bI, rFits, h52, h70, h83, h103, h113] at *; omega))
              · skip
                refine x_iconst 117 C dX12_goes_116 rfl ?_
                refine x_goto 121 C dX12_goes_117 (by decide) ?_
                exact hJ121 _ (by first | (simp [bI, rFits, h52, h70, h83, h103, h113]; done) | (simp [bI, rFits, h52, h70, h83, h103, h113]; omega) | (simp [bI, rFits, h52, h70, h83, h103, h113] at *; omega))
          · skip
            refine x_aload_n 87 C dX12_goes_86 rfl rfl ?_
            refine x_mrow 90 8 C fr_X12_20 dX12_goes_87 rfl rfl hM ?_
            refine x_iload_n 91 C dX12_goes_90 rfl rfl ?_
            refine x_mldI 92 8 C dX12_goes_91 rfl rfl hM (by first | exact hIx | exact ⟨by omega, Int.lt_of_lt_of_le (b := 24) (by omega) (by decide)⟩) ?_
            refine x_iconst 93 C dX12_goes_92 rfl ?_
            refine x_icmp_ne 96 120 C dX12_goes_93 rfl (by decide) (by first | exact hw.2.2.1 _ _ | exact hr0 _ _ | assumption | omega | exact ⟨by omega, by omega⟩) (by first | exact hw.2.2.1 _ _ | exact hr0 _ _ | assumption | omega | exact ⟨by omega, by omega⟩) (fun h93 => ?_) (fun h93 => ?_)
            · skip
              refine x_iconst 121 C dX12_goes_120 rfl ?_
              exact hJ121 _ (by first | (simp [bI, rFits, h52, h70, h83, h93]; done) | (simp [bI, rFits, h52, h70, h83, h93]; omega) | (simp [bI, rFits, h52, h70, h83, h93] at *; omega))
            · skip
              refine x_aload_n 97 C dX12_goes_96 rfl rfl ?_
              refine x_mrow 100 41 C fr_X12_110 dX12_goes_97 rfl rfl hM ?_
              refine x_iload_n 101 C dX12_goes_100 rfl rfl ?_
              refine x_mldI 102 41 C dX12_goes_101 rfl rfl hM (by first | exact hIx | exact ⟨by omega, Int.lt_of_lt_of_le (b := 12) (by omega) (by decide)⟩) ?_
              refine x_iconst 103 C dX12_goes_102 rfl ?_
              refine x_icmp_eq 106 116 C dX12_goes_103 rfl (by decide) (by first | exact hw.2.2.1 _ _ | exact hr0 _ _ | assumption | omega | exact ⟨by omega, by omega⟩) (by first | exact hw.2.2.1 _ _ | exact hr0 _ _ | assumption | omega | exact ⟨by omega, by omega⟩) (fun h103 => ?_) (fun h103 => ?_)
              · skip
                refine x_iconst 117 C dX12_goes_116 rfl ?_
                refine x_goto 121 C dX12_goes_117 (by decide) ?_
                exact hJ121 _ (by first | (simp [bI, rFits, h52, h70, h83, h93, h103]; done) | (simp [bI, rFits, h52, h70, h83, h93, h103]; omega) | (simp [bI, rFits, h52, h70, h83, h93, h103] at *; omega))
              · skip
                refine x_aload_n 107 C dX12_goes_106 rfl rfl ?_
                refine x_mrow 110 41 C fr_X12_110 dX12_goes_107 rfl rfl hM ?_
                refine x_iload_n 111 C dX12_goes_110 rfl rfl ?_
                refine x_mldI 112 41 C dX12_goes_111 rfl rfl hM (by first | exact hIx | exact ⟨by omega, Int.lt_of_lt_of_le (b := 12) (by omega) (by decide)⟩) ?_
                refine x_iload_n 113 C dX12_goes_112 rfl rfl ?_
                refine x_icmp_ne 116 120 C dX12_goes_113 rfl (by decide) (by first | exact hw.2.2.1 _ _ | exact hr0 _ _ | assumption | omega | exact ⟨by omega, by omega⟩) (by first | exact hw.2.2.1 _ _ | exact hr0 _ _ | assumption | omega | exact ⟨by omega, by omega⟩) (fun h113 => ?_) (fun h113 => ?_)
                · skip
                  refine x_iconst 121 C dX12_goes_120 rfl ?_
                  exact hJ121 _ (by first | (simp [bI, rFits, h52, h70, h83, h93, h103, h113]; done) | (simp [bI, rFits, h52, h70, h83, h93, h103, h113]; omega) | (simp [bI, rFits, h52, h70, h83, h93, h103, h113] at *; omega))
                · skip
                  refine x_iconst 117 C dX12_goes_116 rfl ?_
                  refine x_goto 121 C dX12_goes_117 (by decide) ?_
                  exact hJ121 _ (by first | (simp [bI, rFits, h52, h70, h83, h93, h103, h113]; done) | (simp [bI, rFits, h52, h70, h83, h93, h103, h113]; omega) | (simp [bI, rFits, h52, h70, h83, h93, h103, h113] at *; omega))
  · skip
    refine x_aload_n 1 C dX12_goes_0 rfl rfl ?_
    refine x_mrow 4 38 C fr_X12_101 dX12_goes_1 rfl rfl hM ?_
    refine x_iload_n 5 C dX12_goes_4 rfl rfl ?_
    refine x_mldZ 6 38 C dX12_goes_5 rfl rfl hM (by first | exact hIx | exact ⟨by omega, Int.lt_of_lt_of_le (b := 12) (by omega) (by decide)⟩) ?_
    refine x_if_eq 9 32 C dX12_goes_6 rfl (by decide) (by first | exact hw.2.2.1 _ _ | exact hr0 _ _ | assumption | omega | exact ⟨by omega, by omega⟩) (fun h6 => ?_) (fun h6 => ?_)
    · skip
      refine x_aload_n 33 C dX12_goes_32 rfl rfl ?_
      refine x_aload_n 34 C dX12_goes_33 rfl rfl ?_
      refine x_mrow 37 9 C fr_X12_23 dX12_goes_34 rfl rfl hM ?_
      refine x_iload_n 38 C dX12_goes_37 rfl rfl ?_
      refine x_mldI 39 9 C dX12_goes_38 rfl rfl hM (by first | exact hIx | exact ⟨by omega, Int.lt_of_lt_of_le (b := 24) (by omega) (by decide)⟩) ?_
      refine x_aload_n 40 C dX12_goes_39 rfl rfl ?_
      refine x_mrow 43 37 C fr_X12_98 dX12_goes_40 rfl rfl hM ?_
      refine x_iload_n 44 C dX12_goes_43 rfl rfl ?_
      refine x_mldI 45 37 C dX12_goes_44 rfl rfl hM (by first | exact hIx | exact ⟨by omega, Int.lt_of_lt_of_le (b := 12) (by omega) (by decide)⟩) ?_
      refine x_Vr (As := [_, _]) 48 C vw_X12_279 iw_X12_isIn sw_X12_isIn (c_X12_isIn hM hH (by omega) (hr0 _ _)) dX12_goes_45 rfl rfl rfl rfl rfl rfl hM.1 ⟨Nat.le_of_ble_eq_true rfl, Nat.le_of_ble_eq_true rfl⟩ (Nat.le_of_ble_eq_true rfl) ?_
      exact hJ48 _ (by first | (simp [bI, rThere, h6]; done) | (simp [bI, rThere, h6]; omega) | (simp [bI, rThere, h6] at *; omega))
    · skip
      refine x_aload_n 10 C dX12_goes_9 rfl rfl ?_
      refine x_mrow 13 37 C fr_X12_98 dX12_goes_10 rfl rfl hM ?_
      refine x_iload_n 14 C dX12_goes_13 rfl rfl ?_
      refine x_mldI 15 37 C dX12_goes_14 rfl rfl hM (by first | exact hIx | exact ⟨by omega, Int.lt_of_lt_of_le (b := 12) (by omega) (by decide)⟩) ?_
      refine x_aload_n 16 C dX12_goes_15 rfl rfl ?_
      refine x_mrow 19 9 C fr_X12_23 dX12_goes_16 rfl rfl hM ?_
      refine x_iload_n 20 C dX12_goes_19 rfl rfl ?_
      refine x_mldI 21 9 C dX12_goes_20 rfl rfl hM (by first | exact hIx | exact ⟨by omega, Int.lt_of_lt_of_le (b := 24) (by omega) (by decide)⟩) ?_
      refine x_icmp_ne 24 28 C dX12_goes_21 rfl (by decide) (by first | exact hw.2.2.1 _ _ | exact hr0 _ _ | assumption | omega | exact ⟨by omega, by omega⟩) (by first | exact hw.2.2.1 _ _ | exact hr0 _ _ | assumption | omega | exact ⟨by omega, by omega⟩) (fun h21 => ?_) (fun h21 => ?_)
      · skip
        refine x_iconst 29 C dX12_goes_28 rfl ?_
        refine x_goto 48 C dX12_goes_29 (by decide) ?_
        exact hJ48 _ (by first | (simp [bI, rThere, h6, h21]; done) | (simp [bI, rThere, h6, h21]; omega) | (simp [bI, rThere, h6, h21] at *; omega))
      · skip
        refine x_iconst 25 C dX12_goes_24 rfl ?_
        refine x_goto 48 C dX12_goes_25 (by decide) ?_
        exact hJ48 _ (by first | (simp [bI, rThere, h6, h21]; done) | (simp [bI, rThere, h6, h21]; omega) | (simp [bI, rThere, h6, h21] at *; omega))
set_option maxHeartbeats 4000000 in
set_option maxRecDepth 100000 in
theorem c_X12_isRequest {E : EV} {l : Launch} {G : GT} {R : RT} {o : Nat} {x : Int} (hM : RM G o) (h1 : InR x) (hR : RR R) : MT E l yX12_isRequest cX12_isRequest 2 (some .boolean) 1 22 0 0 [.ref o, .int (i32 x)] (wR G R) (pD (some (.int (i32 (bI (rIsRequest R x))))) (wR G (R))) := by
  refine mt_of (own := RX12) (L := [some (.ref o), some (.int (i32 x))]) (by decide +kernel) rfl (Nat.le_of_ble_eq_true rfl) (List.forall_mem_cons.mpr ⟨rfl, (List.forall_mem_cons.mpr ⟨rfl, (fun _ h => absurd h List.not_mem_nil)⟩)⟩) rfl ?_
  intro p e s m args below meth c C hin
  refine x_wf (fun hw => ?_)
  have hr0 : ∀ k j, InR (R k j) := hw.2.2.1
  have hz0 : ∀ k j, mZ k = true → R k j = 0 ∨ R k j = 1 := hw.2.2.2.2.1
  have hh := hR.1
  refine x_iload_n 1 C dX12_isRequest_0 rfl rfl ?_
  refine x_iconst 2 C dX12_isRequest_1 rfl ?_
  refine x_aload_n 3 C dX12_isRequest_2 rfl rfl ?_
  refine x_mget 6 28 C fr_X12_346 dX12_isRequest_3 rfl rfl hM ?_
  refine x_iconst 7 C dX12_isRequest_6 rfl ?_
  refine x_isub 8 C dX12_isRequest_7 rfl ?_
  refine x_Sr (As := [_, _, _]) 11 C vw_X12_168 tw_X12_lies (c_X12_lies (by first | assumption | omega) (by omega) (by omega)) dX12_isRequest_8 rfl rfl rfl ⟨Nat.le_of_ble_eq_true rfl, Nat.le_of_ble_eq_true rfl⟩ (Nat.le_of_ble_eq_true rfl) ?_
  exact x_iret C dX12_isRequest_11 (by first | rfl | exact nar_b _ | exact nar_01 (by first | assumption | omega | exact hw.2.2.2.2.1 _ _ rfl | exact hz0 _ _ rfl)) ⟨vi (rfl), rfl⟩
set_option maxHeartbeats 4000000 in
set_option maxRecDepth 100000 in
theorem c_X12_hops {E : EV} {l : Launch} {G : GT} {R : RT} {o : Nat} {a : Int} (hM : RM G o) (h1 : InR a) (hR : RR R) : MT E l yX12_hops cX12_hops 2 (some .int) 2 43 0 0 [.ref o, .int (i32 a)] (wR G R) (pD (some (.int (i32 (rHops R a)))) (wR G (rF R (rReqC R a)))) := by
  refine mt_of (own := RX12) (L := [some (.ref o), some (.int (i32 a))]) (by decide +kernel) rfl (Nat.le_of_ble_eq_true rfl) (List.forall_mem_cons.mpr ⟨rfl, (List.forall_mem_cons.mpr ⟨rfl, (fun _ h => absurd h List.not_mem_nil)⟩)⟩) rfl ?_
  intro p e s m args below meth c C hin
  refine x_wf (fun hw => ?_)
  have hr0 : ∀ k j, InR (R k j) := hw.2.2.1
  have hz0 : ∀ k j, mZ k = true → R k j = 0 ∨ R k j = 1 := hw.2.2.2.2.1
  have hh := hR.1
  have hc : 0 ≤ rReqC R a ∧ rReqC R a ≤ 3 := by unfold rReqC; (repeat (first | omega | split))
  refine x_aload_n 1 C dX12_hops_0 rfl rfl ?_
  refine x_joinv 14 (fun vJ => vJ = rReqC R a) ?_ (fun hJ14 => ?_)
  · intro vJ hJ
    subst hJ
    refine x_Vr (As := [_]) 17 C vw_X12_187 iw_X12_fails sw_X12_fails (c_X12_fails hM (by first | assumption | omega | exact ⟨by omega, by omega⟩)) dX12_hops_14 rfl rfl rfl rfl rfl rfl hM.1 ⟨Nat.le_of_ble_eq_true rfl, Nat.le_of_ble_eq_true rfl⟩ (Nat.le_of_ble_eq_true rfl) ?_
    refine x_wf (fun hw => ?_)
    refine x_if_eqB 20 24 C dX12_hops_17 rfl (by decide) (fun h17 => ?_) (fun h17 => ?_)
    · skip
      replace h17 := of_decide_eq_false h17
      have hq : rIsRequest R a = true := by (by_cases q : rIsRequest R a = true; exact q; exact absurd (show 0 < rReqC R a by simp [rReqC, q]) h17)
      have hx : 0 ≤ a ∧ a ≤ R 28 0 - 1 := rLies_t.mp hq
      refine x_aload_n 25 C dX12_hops_24 rfl rfl ?_
      refine x_mrow 28 30 C fr_X12_80 dX12_hops_25 rfl rfl hM ?_
      refine x_iload_n 29 C dX12_hops_28 rfl rfl ?_
      refine x_mldI 30 30 C dX12_hops_29 rfl rfl hM (by first | exact hIx | exact ⟨by omega, Int.lt_of_lt_of_le (b := 40) (by omega) (by decide)⟩) ?_
      (try simp only [u2r, false_and, and_false, true_and, and_true, ↓reduceIte, Nat.reduceEqDiff])
      exact x_iret C dX12_hops_30 rfl ⟨vi (by first | rfl | (simp [bI, rHops, h17]; done) | (simp [bI, rHops, h17] <;> omega) | (exfalso; simp_all; done)), rfl⟩
    · skip
      replace h17 := of_decide_eq_true h17
      refine x_iconst 21 C dX12_hops_20 rfl ?_
      refine x_goto 30 C dX12_hops_21 (by decide) ?_
      exact x_iret C dX12_hops_30 rfl ⟨vi (by first | rfl | (simp [bI, rHops, h17]; done) | (simp [bI, rHops, h17] <;> omega) | (exfalso; simp_all; done)), rfl⟩
  · skip
    refine x_aload_n 2 C dX12_hops_1 rfl rfl ?_
    refine x_iload_n 3 C dX12_hops_2 rfl rfl ?_
    refine x_Vr (As := [_]) 6 C vw_X12_384 iw_X12_isRequest sw_X12_isRequest (c_X12_isRequest hM (by assumption) hR) dX12_hops_3 rfl rfl rfl rfl rfl rfl hM.1 ⟨Nat.le_of_ble_eq_true rfl, Nat.le_of_ble_eq_true rfl⟩ (Nat.le_of_ble_eq_true rfl) ?_
    refine x_if_eqB 9 13 C dX12_hops_6 rfl (by decide) (fun h6 => ?_) (fun h6 => ?_)
    · skip
      refine x_iconst 14 C dX12_hops_13 rfl ?_
      exact hJ14 _ (by first | (simp [bI, rReqC, h6]; done) | (simp [bI, rReqC, h6]; omega) | (simp [bI, rReqC, h6] at *; omega))
    · skip
      refine x_iconst 10 C dX12_hops_9 rfl ?_
      refine x_goto 14 C dX12_hops_10 (by decide) ?_
      exact hJ14 _ (by first | (simp [bI, rReqC, h6]; done) | (simp [bI, rReqC, h6]; omega) | (simp [bI, rReqC, h6] at *; omega))
set_option maxHeartbeats 4000000 in
set_option maxRecDepth 100000 in
theorem c_X12_judged {E : EV} {l : Launch} {G : GT} {R : RT} {o : Nat} {a : Int} (hM : RM G o) (h1 : InR a) (hR : RR R) : MT E l yX12_judged cX12_judged 2 (some .int) 2 43 0 0 [.ref o, .int (i32 a)] (wR G R) (pD (some (.int (i32 (rJud R a)))) (wR G (rF R (rReqC R a)))) := by
  refine mt_of (own := RX12) (L := [some (.ref o), some (.int (i32 a))]) (by decide +kernel) rfl (Nat.le_of_ble_eq_true rfl) (List.forall_mem_cons.mpr ⟨rfl, (List.forall_mem_cons.mpr ⟨rfl, (fun _ h => absurd h List.not_mem_nil)⟩)⟩) rfl ?_
  intro p e s m args below meth c C hin
  refine x_wf (fun hw => ?_)
  have hr0 : ∀ k j, InR (R k j) := hw.2.2.1
  have hz0 : ∀ k j, mZ k = true → R k j = 0 ∨ R k j = 1 := hw.2.2.2.2.1
  have hh := hR.1
  have hc : 0 ≤ rReqC R a ∧ rReqC R a ≤ 3 := by unfold rReqC; (repeat (first | omega | split))
  refine x_aload_n 1 C dX12_judged_0 rfl rfl ?_
  refine x_joinv 14 (fun vJ => vJ = rReqC R a) ?_ (fun hJ14 => ?_)
  · intro vJ hJ
    subst hJ
    refine x_Vr (As := [_]) 17 C vw_X12_187 iw_X12_fails sw_X12_fails (c_X12_fails hM (by first | assumption | omega | exact ⟨by omega, by omega⟩)) dX12_judged_14 rfl rfl rfl rfl rfl rfl hM.1 ⟨Nat.le_of_ble_eq_true rfl, Nat.le_of_ble_eq_true rfl⟩ (Nat.le_of_ble_eq_true rfl) ?_
    refine x_wf (fun hw => ?_)
    refine x_if_eqB 20 24 C dX12_judged_17 rfl (by decide) (fun h17 => ?_) (fun h17 => ?_)
    · skip
      replace h17 := of_decide_eq_false h17
      have hq : rIsRequest R a = true := by (by_cases q : rIsRequest R a = true; exact q; exact absurd (show 0 < rReqC R a by simp [rReqC, q]) h17)
      have hx : 0 ≤ a ∧ a ≤ R 28 0 - 1 := rLies_t.mp hq
      refine x_aload_n 25 C dX12_judged_24 rfl rfl ?_
      refine x_mrow 28 29 C fr_X12_77 dX12_judged_25 rfl rfl hM ?_
      refine x_iload_n 29 C dX12_judged_28 rfl rfl ?_
      refine x_mldI 30 29 C dX12_judged_29 rfl rfl hM (by first | exact hIx | exact ⟨by omega, Int.lt_of_lt_of_le (b := 40) (by omega) (by decide)⟩) ?_
      (try simp only [u2r, false_and, and_false, true_and, and_true, ↓reduceIte, Nat.reduceEqDiff])
      exact x_iret C dX12_judged_30 rfl ⟨vi (by first | rfl | (simp [bI, rJud, h17]; done) | (simp [bI, rJud, h17] <;> omega) | (exfalso; simp_all; done)), rfl⟩
    · skip
      replace h17 := of_decide_eq_true h17
      refine x_iconst 21 C dX12_judged_20 rfl ?_
      refine x_goto 30 C dX12_judged_21 (by decide) ?_
      exact x_iret C dX12_judged_30 rfl ⟨vi (by first | rfl | (simp [bI, rJud, h17]; done) | (simp [bI, rJud, h17] <;> omega) | (exfalso; simp_all; done)), rfl⟩
  · skip
    refine x_aload_n 2 C dX12_judged_1 rfl rfl ?_
    refine x_iload_n 3 C dX12_judged_2 rfl rfl ?_
    refine x_Vr (As := [_]) 6 C vw_X12_384 iw_X12_isRequest sw_X12_isRequest (c_X12_isRequest hM (by assumption) hR) dX12_judged_3 rfl rfl rfl rfl rfl rfl hM.1 ⟨Nat.le_of_ble_eq_true rfl, Nat.le_of_ble_eq_true rfl⟩ (Nat.le_of_ble_eq_true rfl) ?_
    refine x_if_eqB 9 13 C dX12_judged_6 rfl (by decide) (fun h6 => ?_) (fun h6 => ?_)
    · skip
      refine x_iconst 14 C dX12_judged_13 rfl ?_
      exact hJ14 _ (by first | (simp [bI, rReqC, h6]; done) | (simp [bI, rReqC, h6]; omega) | (simp [bI, rReqC, h6] at *; omega))
    · skip
      refine x_iconst 10 C dX12_judged_9 rfl ?_
      refine x_goto 14 C dX12_judged_10 (by decide) ?_
      exact hJ14 _ (by first | (simp [bI, rReqC, h6]; done) | (simp [bI, rReqC, h6]; omega) | (simp [bI, rReqC, h6] at *; omega))
set_option maxHeartbeats 4000000 in
set_option maxRecDepth 100000 in
theorem c_X12_isHop {E : EV} {l : Launch} {G : GT} {R : RT} {o : Nat} {a b : Int} (hM : RM G o) (h1 : InR a) (h2 : InR b) (hR : RR R) : MT E l yX12_isHop cX12_isHop 3 (some .boolean) 2 43 0 0 [.ref o, .int (i32 a), .int (i32 b)] (wR G R) (pD (some (.int (i32 (bI (rIsHop R a b))))) (wR G (R))) := by
  refine mt_of (own := RX12) (L := [some (.ref o), some (.int (i32 a)), some (.int (i32 b))]) (by decide +kernel) rfl (Nat.le_of_ble_eq_true rfl) (List.forall_mem_cons.mpr ⟨rfl, (List.forall_mem_cons.mpr ⟨rfl, (List.forall_mem_cons.mpr ⟨rfl, (fun _ h => absurd h List.not_mem_nil)⟩)⟩)⟩) rfl ?_
  intro p e s m args below meth c C hin
  refine x_wf (fun hw => ?_)
  have hr0 : ∀ k j, InR (R k j) := hw.2.2.1
  have hz0 : ∀ k j, mZ k = true → R k j = 0 ∨ R k j = 1 := hw.2.2.2.2.1
  have hh := hR.1
  refine x_aload_n 1 C dX12_isHop_0 rfl rfl ?_
  refine x_iload_n 2 C dX12_isHop_1 rfl rfl ?_
  refine x_Vr (As := [_]) 5 C vw_X12_384 iw_X12_isRequest sw_X12_isRequest (c_X12_isRequest hM (by assumption) hR) dX12_isHop_2 rfl rfl rfl rfl rfl rfl hM.1 ⟨Nat.le_of_ble_eq_true rfl, Nat.le_of_ble_eq_true rfl⟩ (Nat.le_of_ble_eq_true rfl) ?_
  refine x_if_eqB 8 28 C dX12_isHop_5 rfl (by decide) (fun h5 => ?_) (fun h5 => ?_)
  · skip
    refine x_iconst 29 C dX12_isHop_28 rfl ?_
    exact x_iret C dX12_isHop_29 (by first | rfl | exact nar_b _ | exact nar_01 (by first | assumption | omega | exact hw.2.2.2.2.1 _ _ rfl | exact hz0 _ _ rfl)) ⟨vi (by first | rfl | (simp [bI, rIsHop, h5]; done) | (simp [bI, rIsHop, h5] <;> omega) | (exfalso; simp_all; done)), rfl⟩
  · skip
    have hx : 0 ≤ a ∧ a ≤ R 28 0 - 1 := rLies_t.mp h5
    have hx2 := hR.2.1 a.toNat (by omega)
    refine x_iload_n 9 C dX12_isHop_8 rfl rfl ?_
    refine x_iconst 10 C dX12_isHop_9 rfl ?_
    refine x_aload_n 11 C dX12_isHop_10 rfl rfl ?_
    refine x_mrow 14 30 C fr_X12_80 dX12_isHop_11 rfl rfl hM ?_
    refine x_iload_n 15 C dX12_isHop_14 rfl rfl ?_
    refine x_mldI 16 30 C dX12_isHop_15 rfl rfl hM (by first | exact hIx | exact ⟨by omega, Int.lt_of_lt_of_le (b := 40) (by omega) (by decide)⟩) ?_
    refine x_iconst 17 C dX12_isHop_16 rfl ?_
    refine x_isub 18 C dX12_isHop_17 rfl ?_
    refine x_Sr (As := [_, _, _]) 21 C vw_X12_168 tw_X12_lies (c_X12_lies (by first | assumption | omega) (by omega) (by omega)) dX12_isHop_18 rfl rfl rfl ⟨Nat.le_of_ble_eq_true rfl, Nat.le_of_ble_eq_true rfl⟩ (Nat.le_of_ble_eq_true rfl) ?_
    refine x_if_eqB 24 28 C dX12_isHop_21 rfl (by decide) (fun h21 => ?_) (fun h21 => ?_)
    · skip
      refine x_iconst 29 C dX12_isHop_28 rfl ?_
      exact x_iret C dX12_isHop_29 (by first | rfl | exact nar_b _ | exact nar_01 (by first | assumption | omega | exact hw.2.2.2.2.1 _ _ rfl | exact hz0 _ _ rfl)) ⟨vi (by first | rfl | (simp [bI, rIsHop, h5, h21]; done) | (simp [bI, rIsHop, h5, h21] <;> omega) | (exfalso; simp_all; done)), rfl⟩
    · skip
      refine x_iconst 25 C dX12_isHop_24 rfl ?_
      refine x_goto 29 C dX12_isHop_25 (by decide) ?_
      exact x_iret C dX12_isHop_29 (by first | rfl | exact nar_b _ | exact nar_01 (by first | assumption | omega | exact hw.2.2.2.2.1 _ _ rfl | exact hz0 _ _ rfl)) ⟨vi (by first | rfl | (simp [bI, rIsHop, h5, h21]; done) | (simp [bI, rIsHop, h5, h21] <;> omega) | (exfalso; simp_all; done)), rfl⟩
set_option maxHeartbeats 4000000 in
set_option maxRecDepth 100000 in
theorem c_X12_hop {E : EV} {l : Launch} {G : GT} {R : RT} {o : Nat} {a b : Int} (hM : RM G o) (h1 : InR a) (h2 : InR b) (hR : RR R) : MT E l yX12_hop cX12_hop 3 (some .int) 3 65 0 0 [.ref o, .int (i32 a), .int (i32 b)] (wR G R) (pD (some (.int (i32 (rHop R a b)))) (wR G (rF R (rHopC R a b)))) := by
  refine mt_of (own := RX12) (L := [some (.ref o), some (.int (i32 a)), some (.int (i32 b))]) (by decide +kernel) rfl (Nat.le_of_ble_eq_true rfl) (List.forall_mem_cons.mpr ⟨rfl, (List.forall_mem_cons.mpr ⟨rfl, (List.forall_mem_cons.mpr ⟨rfl, (fun _ h => absurd h List.not_mem_nil)⟩)⟩)⟩) rfl ?_
  intro p e s m args below meth c C hin
  refine x_wf (fun hw => ?_)
  have hr0 : ∀ k j, InR (R k j) := hw.2.2.1
  have hz0 : ∀ k j, mZ k = true → R k j = 0 ∨ R k j = 1 := hw.2.2.2.2.1
  have hh := hR.1
  have hc : 0 ≤ rHopC R a b ∧ rHopC R a b ≤ 3 := by unfold rHopC; (repeat (first | omega | split))
  refine x_aload_n 1 C dX12_hop_0 rfl rfl ?_
  refine x_joinv 15 (fun vJ => vJ = rHopC R a b) ?_ (fun hJ15 => ?_)
  · intro vJ hJ
    subst hJ
    refine x_Vr (As := [_]) 18 C vw_X12_187 iw_X12_fails sw_X12_fails (c_X12_fails hM (by first | assumption | omega | exact ⟨by omega, by omega⟩)) dX12_hop_15 rfl rfl rfl rfl rfl rfl hM.1 ⟨Nat.le_of_ble_eq_true rfl, Nat.le_of_ble_eq_true rfl⟩ (Nat.le_of_ble_eq_true rfl) ?_
    refine x_wf (fun hw => ?_)
    refine x_if_eqB 21 25 C dX12_hop_18 rfl (by decide) (fun h18 => ?_) (fun h18 => ?_)
    · skip
      replace h18 := of_decide_eq_false h18
      have hq : rIsHop R a b = true := by (by_cases q : rIsHop R a b = true; exact q; exact absurd (show 0 < rHopC R a b by simp [rHopC, q]) h18)
      have hx : 0 ≤ a ∧ a ≤ R 28 0 - 1 := by (simp only [rIsHop, rIsRequest, Bool.and_eq_true] at hq; exact rLies_t.mp (by first | exact hq.1.1 | exact hq.1))
      have hx3 : 0 ≤ b ∧ b ≤ R 30 a.toNat - 1 := by (simp only [rIsHop, rIsRequest, Bool.and_eq_true] at hq; exact rLies_t.mp (by first | exact hq.1.2 | exact hq.2))
      have hx2 := hR.2.1 a.toNat (by omega)
      refine x_aload_n 26 C dX12_hop_25 rfl rfl ?_
      refine x_mrow 29 31 C fr_X12_83 dX12_hop_26 rfl rfl hM ?_
      refine x_bipush 31 C dX12_hop_29 rfl (by decide) ?_
      refine x_iload_n 32 C dX12_hop_31 rfl rfl ?_
      refine x_imul 33 C dX12_hop_32 rfl ?_
      refine x_iload_n 34 C dX12_hop_33 rfl rfl ?_
      refine x_iadd 35 C dX12_hop_34 rfl ?_
      refine x_mldI 36 31 C dX12_hop_35 rfl rfl hM (by first | exact hIx | exact ⟨by omega, Int.lt_of_lt_of_le (b := 240) (by omega) (by decide)⟩) ?_
      (try simp only [u2r, false_and, and_false, true_and, and_true, ↓reduceIte, Nat.reduceEqDiff])
      exact x_iret C dX12_hop_36 rfl ⟨vi (by first | rfl | (simp [bI, rHop, h18]; done) | (simp [bI, rHop, h18] <;> omega) | (exfalso; simp_all; done)), rfl⟩
    · skip
      replace h18 := of_decide_eq_true h18
      refine x_iconst 22 C dX12_hop_21 rfl ?_
      refine x_goto 36 C dX12_hop_22 (by decide) ?_
      exact x_iret C dX12_hop_36 rfl ⟨vi (by first | rfl | (simp [bI, rHop, h18]; done) | (simp [bI, rHop, h18] <;> omega) | (exfalso; simp_all; done)), rfl⟩
  · skip
    refine x_aload_n 2 C dX12_hop_1 rfl rfl ?_
    refine x_iload_n 3 C dX12_hop_2 rfl rfl ?_
    refine x_iload_n 4 C dX12_hop_3 rfl rfl ?_
    refine x_Vr (As := [_, _]) 7 C vw_X12_387 iw_X12_isHop sw_X12_isHop (c_X12_isHop hM (by assumption) (by assumption) hR) dX12_hop_4 rfl rfl rfl rfl rfl rfl hM.1 ⟨Nat.le_of_ble_eq_true rfl, Nat.le_of_ble_eq_true rfl⟩ (Nat.le_of_ble_eq_true rfl) ?_
    refine x_if_eqB 10 14 C dX12_hop_7 rfl (by decide) (fun h7 => ?_) (fun h7 => ?_)
    · skip
      refine x_iconst 15 C dX12_hop_14 rfl ?_
      exact hJ15 _ (by first | (simp [bI, rHopC, h7]; done) | (simp [bI, rHopC, h7]; omega) | (simp [bI, rHopC, h7] at *; omega))
    · skip
      refine x_iconst 11 C dX12_hop_10 rfl ?_
      refine x_goto 15 C dX12_hop_11 (by decide) ?_
      exact hJ15 _ (by first | (simp [bI, rHopC, h7]; done) | (simp [bI, rHopC, h7]; omega) | (simp [bI, rHopC, h7] at *; omega))
set_option maxHeartbeats 4000000 in
set_option maxRecDepth 100000 in
theorem c_X12_sent {E : EV} {l : Launch} {G : GT} {R : RT} {o : Nat} {a b q : Int} (hM : RM G o) (h1 : InR a) (h2 : InR b) (h3 : InR q) (hR : RR R) : MT E l yX12_sent cX12_sent 5 (some .int) 3 65 0 0 [.ref o, .int (i32 a), .int (i32 b), .int (i32 q)] (wR G R) (pD (some (.int (i32 (rSent R a b q)))) (wR G (rF R (rSentC R a b q)))) := by
  refine mt_of (own := RX12) (L := [some (.ref o), some (.int (i32 a)), some (.int (i32 b)), some (.int (i32 q)), none]) (by decide +kernel) rfl (Nat.le_of_ble_eq_true rfl) (List.forall_mem_cons.mpr ⟨rfl, (List.forall_mem_cons.mpr ⟨rfl, (List.forall_mem_cons.mpr ⟨rfl, (List.forall_mem_cons.mpr ⟨rfl, (fun _ h => absurd h List.not_mem_nil)⟩)⟩)⟩)⟩) rfl ?_
  intro p e s m args below meth c C hin
  refine x_wf (fun hw => ?_)
  have hr0 : ∀ k j, InR (R k j) := hw.2.2.1
  have hz0 : ∀ k j, mZ k = true → R k j = 0 ∨ R k j = 1 := hw.2.2.2.2.1
  have hh := hR.1
  have hc : 0 ≤ rSentC R a b q ∧ rSentC R a b q ≤ 3 := by unfold rSentC; (repeat (first | omega | split))
  refine x_aload_n 1 C dX12_sent_0 rfl rfl ?_
  refine x_joinv 19 (fun vJ => vJ = rSentC R a b q) ?_ (fun hJ19 => ?_)
  · intro vJ hJ
    subst hJ
    refine x_Vr (As := [_]) 22 C vw_X12_187 iw_X12_fails sw_X12_fails (c_X12_fails hM (by first | assumption | omega | exact ⟨by omega, by omega⟩)) dX12_sent_19 rfl rfl rfl rfl rfl rfl hM.1 ⟨Nat.le_of_ble_eq_true rfl, Nat.le_of_ble_eq_true rfl⟩ (Nat.le_of_ble_eq_true rfl) ?_
    refine x_wf (fun hw => ?_)
    refine x_if_eqB 25 27 C dX12_sent_22 rfl (by decide) (fun h22 => ?_) (fun h22 => ?_)
    · skip
      replace h22 := of_decide_eq_false h22
      have hq : (rIsHop R a b && decide (0 ≤ q)) = true := by (by_cases y : (rIsHop R a b && decide (0 ≤ q)) = true; exact y; exact absurd (show 0 < rSentC R a b q by rw [rSentC, if_neg y]; decide) h22)
      have hq0 : 0 ≤ q := by (simp only [Bool.and_eq_true, decide_eq_true_iff] at hq; exact hq.2)
      have hx : 0 ≤ a ∧ a ≤ R 28 0 - 1 := by (simp only [rIsHop, rIsRequest, Bool.and_eq_true] at hq; exact rLies_t.mp (by first | exact hq.1.1 | exact hq.1))
      have hx3 : 0 ≤ b ∧ b ≤ R 30 a.toNat - 1 := by (simp only [rIsHop, rIsRequest, Bool.and_eq_true] at hq; exact rLies_t.mp (by first | exact hq.1.2 | exact hq.2))
      have hx2 := hR.2.1 a.toNat (by omega)
      have hsm := hR.2.2 (6 * a + b).toNat
      refine x_bipush 29 C dX12_sent_27 rfl (by decide) ?_
      refine x_iload_n 30 C dX12_sent_29 rfl rfl ?_
      refine x_imul 31 C dX12_sent_30 rfl ?_
      refine x_iload_n 32 C dX12_sent_31 rfl rfl ?_
      refine x_iadd 33 C dX12_sent_32 rfl ?_
      refine x_istore 35 C dX12_sent_33 rfl rfl rfl ?_
      refine x_iload_n 36 C dX12_sent_35 rfl rfl ?_
      refine x_aload_n 37 C dX12_sent_36 rfl rfl ?_
      refine x_mrow 40 32 C fr_X12_86 dX12_sent_37 rfl rfl hM ?_
      refine x_iload 42 C dX12_sent_40 rfl rfl ?_
      refine x_mldI 43 32 C dX12_sent_42 rfl rfl hM (by first | exact hIx | exact ⟨by omega, Int.lt_of_lt_of_le (b := 240) (by omega) (by decide)⟩) ?_
      (try simp only [u2r, false_and, and_false, true_and, and_true, ↓reduceIte, Nat.reduceEqDiff])
      refine x_icmp_ge 46 61 C dX12_sent_43 rfl (by decide) (by first | exact hw.2.2.1 _ _ | exact hr0 _ _ | assumption | omega | exact ⟨by omega, by omega⟩) (by first | exact hw.2.2.1 _ _ | exact hr0 _ _ | assumption | omega | exact ⟨by omega, by omega⟩) (fun h43 => ?_) (fun h43 => ?_)
      · skip
        refine x_iconst 62 C dX12_sent_61 rfl ?_
        exact x_iret C dX12_sent_62 rfl ⟨vi (by first | rfl | (simp [bI, rSent, h22, h43]; done) | (simp [bI, rSent, h22, h43] <;> omega) | (exfalso; simp_all; done)), rfl⟩
      · skip
        refine x_aload_n 47 C dX12_sent_46 rfl rfl ?_
        refine x_mrow 50 33 C fr_X12_89 dX12_sent_47 rfl rfl hM ?_
        refine x_bipush 52 C dX12_sent_50 rfl (by decide) ?_
        refine x_iload 54 C dX12_sent_52 rfl rfl ?_
        refine x_imul 55 C dX12_sent_54 rfl ?_
        refine x_iload_n 56 C dX12_sent_55 rfl rfl ?_
        refine x_iadd 57 C dX12_sent_56 rfl ?_
        refine x_mldI 58 33 C dX12_sent_57 rfl rfl hM (by first | exact hIx | exact ⟨by omega, Int.lt_of_lt_of_le (b := 2880) (by omega) (by decide)⟩) ?_
        (try simp only [u2r, false_and, and_false, true_and, and_true, ↓reduceIte, Nat.reduceEqDiff])
        refine x_goto 62 C dX12_sent_58 (by decide) ?_
        exact x_iret C dX12_sent_62 rfl ⟨vi (by first | rfl | (simp [bI, rSent, h22, h43]; done) | (simp [bI, rSent, h22, h43] <;> omega) | (exfalso; simp_all; done)), rfl⟩
    · skip
      replace h22 := of_decide_eq_true h22
      refine x_iconst 26 C dX12_sent_25 rfl ?_
      exact x_iret C dX12_sent_26 rfl ⟨vi (by first | rfl | (simp [bI, rSent, h22]; done) | (simp [bI, rSent, h22] <;> omega) | (exfalso; simp_all; done)), rfl⟩
  · skip
    refine x_aload_n 2 C dX12_sent_1 rfl rfl ?_
    refine x_iload_n 3 C dX12_sent_2 rfl rfl ?_
    refine x_iload_n 4 C dX12_sent_3 rfl rfl ?_
    refine x_Vr (As := [_, _]) 7 C vw_X12_387 iw_X12_isHop sw_X12_isHop (c_X12_isHop hM (by assumption) (by assumption) hR) dX12_sent_4 rfl rfl rfl rfl rfl rfl hM.1 ⟨Nat.le_of_ble_eq_true rfl, Nat.le_of_ble_eq_true rfl⟩ (Nat.le_of_ble_eq_true rfl) ?_
    refine x_if_eqB 10 18 C dX12_sent_7 rfl (by decide) (fun h7 => ?_) (fun h7 => ?_)
    · skip
      refine x_iconst 19 C dX12_sent_18 rfl ?_
      exact hJ19 _ (by first | (simp [bI, rSentC, h7]; done) | (simp [bI, rSentC, h7]; omega) | (simp [bI, rSentC, h7] at *; omega))
    · skip
      refine x_iload_n 11 C dX12_sent_10 rfl rfl ?_
      refine x_if_lt 14 18 C dX12_sent_11 rfl (by decide) (by first | exact hw.2.2.1 _ _ | exact hr0 _ _ | assumption | omega | exact ⟨by omega, by omega⟩) (fun h11 => ?_) (fun h11 => ?_)
      · skip
        refine x_iconst 19 C dX12_sent_18 rfl ?_
        exact hJ19 _ (by first | (simp [bI, rSentC, h7, h11]; done) | (simp [bI, rSentC, h7, h11]; omega) | (simp [bI, rSentC, h7, h11] at *; omega))
      · skip
        refine x_iconst 15 C dX12_sent_14 rfl ?_
        refine x_goto 19 C dX12_sent_15 (by decide) ?_
        exact hJ19 _ (by first | (simp [bI, rSentC, h7, h11]; done) | (simp [bI, rSentC, h7, h11]; omega) | (simp [bI, rSentC, h7, h11] at *; omega))
set_option maxHeartbeats 4000000 in
set_option maxRecDepth 100000 in
theorem c_X12_cookies {E : EV} {l : Launch} {G : GT} {R : RT} {o : Nat} (hM : RM G o)  : MT E l yX12_cookies cX12_cookies 1 (some .int) 0 0 0 0 [.ref o] (wR G R) (pD (some (.int (i32 (R 34 0)))) (wR G (rF R 0))) := by
  refine mt_of (own := RX12) (L := [some (.ref o)]) (by decide +kernel) rfl (Nat.le_of_ble_eq_true rfl) (List.forall_mem_cons.mpr ⟨rfl, (fun _ h => absurd h List.not_mem_nil)⟩) rfl ?_
  intro p e s m args below meth c C hin
  refine x_wf (fun hw => ?_)
  have hr0 : ∀ k j, InR (R k j) := hw.2.2.1
  have hz0 : ∀ k j, mZ k = true → R k j = 0 ∨ R k j = 1 := hw.2.2.2.2.1
  refine x_aload_n 1 C dX12_cookies_0 rfl rfl ?_
  refine x_iconst 2 C dX12_cookies_1 rfl ?_
  refine x_mput 5 71 C fw_X12_161 dX12_cookies_2 rfl rfl rfl hM (by first | exact hw.2.2.1 _ _ | exact hr0 _ _ | assumption | omega | exact ⟨by omega, by omega⟩) (fun z => absurd z (by decide)) ?_
  refine x_wf (fun hw => ?_)
  refine x_aload_n 6 C dX12_cookies_5 rfl rfl ?_
  refine x_mget 9 34 C fr_X12_260 dX12_cookies_6 rfl rfl hM ?_
  (try simp only [u2r, false_and, and_false, true_and, and_true, ↓reduceIte, Nat.reduceEqDiff])
  exact x_iret C dX12_cookies_9 rfl ⟨vi (rfl), rfl⟩
set_option maxHeartbeats 4000000 in
set_option maxRecDepth 100000 in
theorem c_X12_cookie {E : EV} {l : Launch} {G : GT} {R : RT} {o : Nat} {a : Int} (hM : RM G o) (h1 : InR a) (hC : RC R) : MT E l yX12_cookie cX12_cookie 3 (some .int) 1 22 0 0 [.ref o, .int (i32 a)] (wR G R) (pD (some (.int (i32 (rCk R a)))) (wR G (rF R (rCkC R a)))) := by
  refine mt_of (own := RX12) (L := [some (.ref o), some (.int (i32 a)), none]) (by decide +kernel) rfl (Nat.le_of_ble_eq_true rfl) (List.forall_mem_cons.mpr ⟨rfl, (List.forall_mem_cons.mpr ⟨rfl, (fun _ h => absurd h List.not_mem_nil)⟩)⟩) rfl ?_
  intro p e s m args below meth c C hin
  refine x_wf (fun hw => ?_)
  have hr0 : ∀ k j, InR (R k j) := hw.2.2.1
  have hz0 : ∀ k j, mZ k = true → R k j = 0 ∨ R k j = 1 := hw.2.2.2.2.1
  have hh := hC.1
  have hc : 0 ≤ rCkC R a ∧ rCkC R a ≤ 3 := by unfold rCkC; (repeat (first | omega | split))
  refine x_iload_n 1 C dX12_cookie_0 rfl rfl ?_
  refine x_iconst 2 C dX12_cookie_1 rfl ?_
  refine x_aload_n 3 C dX12_cookie_2 rfl rfl ?_
  refine x_mget 6 34 C fr_X12_260 dX12_cookie_3 rfl rfl hM ?_
  refine x_iconst 7 C dX12_cookie_6 rfl ?_
  refine x_isub 8 C dX12_cookie_7 rfl ?_
  refine x_Sr (As := [_, _, _]) 11 C vw_X12_168 tw_X12_lies (c_X12_lies (by first | assumption | omega) (by omega) (by omega)) dX12_cookie_8 rfl rfl rfl ⟨Nat.le_of_ble_eq_true rfl, Nat.le_of_ble_eq_true rfl⟩ (Nat.le_of_ble_eq_true rfl) ?_
  refine x_istore_n 12 C dX12_cookie_11 rfl rfl rfl ?_
  refine x_aload_n 13 C dX12_cookie_12 rfl rfl ?_
  refine x_joinv 22 (fun vJ => vJ = rCkC R a) ?_ (fun hJ22 => ?_)
  · intro vJ hJ
    subst hJ
    refine x_Vr (As := [_]) 25 C vw_X12_187 iw_X12_fails sw_X12_fails (c_X12_fails hM (by first | assumption | omega | exact ⟨by omega, by omega⟩)) dX12_cookie_22 rfl rfl rfl rfl rfl rfl hM.1 ⟨Nat.le_of_ble_eq_true rfl, Nat.le_of_ble_eq_true rfl⟩ (Nat.le_of_ble_eq_true rfl) ?_
    refine x_wf (fun hw => ?_)
    refine x_if_eqB 28 32 C dX12_cookie_25 rfl (by decide) (fun h25 => ?_) (fun h25 => ?_)
    · skip
      replace h25 := of_decide_eq_false h25
      have hx : 0 ≤ a ∧ a ≤ R 34 0 - 1 := rLies_t.mp (by (by_cases y : rLies a 0 (R 34 0 - 1) = true; exact y; exact absurd (show 0 < rCkC R a by rw [rCkC, if_neg y]; decide) h25))
      refine x_ldcw (v := 100000) 35 C (aw_i 1927 (by decide +kernel) rfl) dX12_cookie_32 rfl ?_
      refine x_aload_n 36 C dX12_cookie_35 rfl rfl ?_
      refine x_mrow 39 37 C fr_X12_98 dX12_cookie_36 rfl rfl hM ?_
      refine x_iload_n 40 C dX12_cookie_39 rfl rfl ?_
      refine x_mldI 41 37 C dX12_cookie_40 rfl rfl hM (by first | exact hIx | exact ⟨by omega, Int.lt_of_lt_of_le (b := 12) (by omega) (by decide)⟩) ?_
      (try simp only [u2r, false_and, and_false, true_and, and_true, ↓reduceIte, Nat.reduceEqDiff])
      refine x_imul 42 C dX12_cookie_41 rfl ?_
      refine x_sipush 45 C dX12_cookie_42 rfl (by decide) ?_
      refine x_aload_n 46 C dX12_cookie_45 rfl rfl ?_
      refine x_mrow 49 35 C fr_X12_92 dX12_cookie_46 rfl rfl hM ?_
      refine x_iload_n 50 C dX12_cookie_49 rfl rfl ?_
      refine x_mldI 51 35 C dX12_cookie_50 rfl rfl hM (by first | exact hIx | exact ⟨by omega, Int.lt_of_lt_of_le (b := 12) (by omega) (by decide)⟩) ?_
      (try simp only [u2r, false_and, and_false, true_and, and_true, ↓reduceIte, Nat.reduceEqDiff])
      refine x_imul 52 C dX12_cookie_51 rfl ?_
      refine x_iadd 53 C dX12_cookie_52 rfl ?_
      refine x_aload_n 54 C dX12_cookie_53 rfl rfl ?_
      refine x_mrow 57 36 C fr_X12_95 dX12_cookie_54 rfl rfl hM ?_
      refine x_iload_n 58 C dX12_cookie_57 rfl rfl ?_
      refine x_mldI 59 36 C dX12_cookie_58 rfl rfl hM (by first | exact hIx | exact ⟨by omega, Int.lt_of_lt_of_le (b := 12) (by omega) (by decide)⟩) ?_
      (try simp only [u2r, false_and, and_false, true_and, and_true, ↓reduceIte, Nat.reduceEqDiff])
      refine x_iadd 60 C dX12_cookie_59 rfl ?_
      refine x_aload_n 61 C dX12_cookie_60 rfl rfl ?_
      refine x_mrow 64 41 C fr_X12_110 dX12_cookie_61 rfl rfl hM ?_
      refine x_iload_n 65 C dX12_cookie_64 rfl rfl ?_
      refine x_mldI 66 41 C dX12_cookie_65 rfl rfl hM (by first | exact hIx | exact ⟨by omega, Int.lt_of_lt_of_le (b := 12) (by omega) (by decide)⟩) ?_
      (try simp only [u2r, false_and, and_false, true_and, and_true, ↓reduceIte, Nat.reduceEqDiff])
      refine x_iconst 67 C dX12_cookie_66 rfl ?_
      refine x_icmp_ne 70 74 C dX12_cookie_67 rfl (by decide) (by first | exact hw.2.2.1 _ _ | exact hr0 _ _ | assumption | omega | exact ⟨by omega, by omega⟩) (by first | exact hw.2.2.1 _ _ | exact hr0 _ _ | assumption | omega | exact ⟨by omega, by omega⟩) (fun h67 => ?_) (fun h67 => ?_)
      · skip
        refine x_ldcw (v := 50000000) 77 C (aw_i 1928 (by decide +kernel) rfl) dX12_cookie_74 rfl ?_
        refine x_iadd 78 C dX12_cookie_77 rfl ?_
        exact x_iret C dX12_cookie_78 rfl ⟨vi (by first | rfl | (simp [bI, rCk, h25, h67]; done) | (simp [bI, rCk, h25, h67] <;> omega) | (exfalso; simp_all; done)), rfl⟩
      · skip
        refine x_iconst 71 C dX12_cookie_70 rfl ?_
        refine x_goto 77 C dX12_cookie_71 (by decide) ?_
        refine x_iadd 78 C dX12_cookie_77 rfl ?_
        exact x_iret C dX12_cookie_78 rfl ⟨vi (by first | rfl | (simp [bI, rCk, h25, h67]; done) | (simp [bI, rCk, h25, h67] <;> omega) | (exfalso; simp_all; done)), rfl⟩
    · skip
      replace h25 := of_decide_eq_true h25
      refine x_iconst 29 C dX12_cookie_28 rfl ?_
      refine x_goto 78 C dX12_cookie_29 (by decide) ?_
      exact x_iret C dX12_cookie_78 rfl ⟨vi (by first | rfl | (simp [bI, rCk, h25]; done) | (simp [bI, rCk, h25] <;> omega) | (exfalso; simp_all; done)), rfl⟩
  · skip
    refine x_iload_n 14 C dX12_cookie_13 rfl rfl ?_
    refine x_if_eqB 17 21 C dX12_cookie_14 rfl (by decide) (fun h14 => ?_) (fun h14 => ?_)
    · skip
      refine x_iconst 22 C dX12_cookie_21 rfl ?_
      exact hJ22 _ (by first | (simp [bI, rCkC, h14]; done) | (simp [bI, rCkC, h14]; omega) | (simp [bI, rCkC, h14] at *; omega))
    · skip
      refine x_iconst 18 C dX12_cookie_17 rfl ?_
      refine x_goto 22 C dX12_cookie_18 (by decide) ?_
      exact hJ22 _ (by first | (simp [bI, rCkC, h14]; done) | (simp [bI, rCkC, h14]; omega) | (simp [bI, rCkC, h14] at *; omega))
set_option maxHeartbeats 4000000 in
set_option maxRecDepth 100000 in
theorem c_X12_count {E : EV} {l : Launch} {G : GT} {R : RT} {o : Nat} {a : Int} (hM : RM G o) (h1 : InR a) : MT E l yX12_count cX12_count 2 (some .int) 1 22 0 0 [.ref o, .int (i32 a)] (wR G R) (pD (some (.int (i32 (rCnt R a)))) (wR G (rF R (rCntC a)))) := by
  refine mt_of (own := RX12) (L := [some (.ref o), some (.int (i32 a))]) (by decide +kernel) rfl (Nat.le_of_ble_eq_true rfl) (List.forall_mem_cons.mpr ⟨rfl, (List.forall_mem_cons.mpr ⟨rfl, (fun _ h => absurd h List.not_mem_nil)⟩)⟩) rfl ?_
  intro p e s m args below meth c C hin
  refine x_wf (fun hw => ?_)
  have hr0 : ∀ k j, InR (R k j) := hw.2.2.1
  have hz0 : ∀ k j, mZ k = true → R k j = 0 ∨ R k j = 1 := hw.2.2.2.2.1
  have hc : 0 ≤ rCntC a ∧ rCntC a ≤ 3 := by unfold rCntC; (repeat (first | omega | split))
  refine x_aload_n 1 C dX12_count_0 rfl rfl ?_
  refine x_joinv 15 (fun vJ => vJ = rCntC a) ?_ (fun hJ15 => ?_)
  · intro vJ hJ
    subst hJ
    refine x_Vr (As := [_]) 18 C vw_X12_187 iw_X12_fails sw_X12_fails (c_X12_fails hM (by first | assumption | omega | exact ⟨by omega, by omega⟩)) dX12_count_15 rfl rfl rfl rfl rfl rfl hM.1 ⟨Nat.le_of_ble_eq_true rfl, Nat.le_of_ble_eq_true rfl⟩ (Nat.le_of_ble_eq_true rfl) ?_
    refine x_wf (fun hw => ?_)
    refine x_if_eqB 21 25 C dX12_count_18 rfl (by decide) (fun h18 => ?_) (fun h18 => ?_)
    · skip
      replace h18 := of_decide_eq_false h18
      refine x_iload_n 26 C dX12_count_25 rfl rfl ?_
      refine x_if_ne 29 36 C dX12_count_26 rfl (by decide) (by first | exact hw.2.2.1 _ _ | exact hr0 _ _ | assumption | omega | exact ⟨by omega, by omega⟩) (fun h26 => ?_) (fun h26 => ?_)
      · skip
        refine x_iload_n 37 C dX12_count_36 rfl rfl ?_
        refine x_iconst 38 C dX12_count_37 rfl ?_
        refine x_icmp_ne 41 48 C dX12_count_38 rfl (by decide) (by first | exact hw.2.2.1 _ _ | exact hr0 _ _ | assumption | omega | exact ⟨by omega, by omega⟩) (by first | exact hw.2.2.1 _ _ | exact hr0 _ _ | assumption | omega | exact ⟨by omega, by omega⟩) (fun h38 => ?_) (fun h38 => ?_)
        · skip
          refine x_aload_n 49 C dX12_count_48 rfl rfl ?_
          refine x_mget 52 53 C fr_X12_333 dX12_count_49 rfl rfl hM ?_
          (try simp only [u2r, false_and, and_false, true_and, and_true, ↓reduceIte, Nat.reduceEqDiff])
          exact x_iret C dX12_count_52 rfl ⟨vi (by first | (rw [rCnt, if_pos h18]; done) | (rw [rCnt, if_neg h18, if_neg h26, if_neg h38]; done) | (rw [rCnt, if_neg h18, if_neg h26, if_pos h38]; done) | (rw [rCnt, if_neg h18, if_pos h26]; done)), rfl⟩
        · skip
          refine x_aload_n 42 C dX12_count_41 rfl rfl ?_
          refine x_mget 45 44 C fr_X12_241 dX12_count_42 rfl rfl hM ?_
          (try simp only [u2r, false_and, and_false, true_and, and_true, ↓reduceIte, Nat.reduceEqDiff])
          refine x_goto 52 C dX12_count_45 (by decide) ?_
          exact x_iret C dX12_count_52 rfl ⟨vi (by first | (rw [rCnt, if_pos h18]; done) | (rw [rCnt, if_neg h18, if_neg h26, if_neg h38]; done) | (rw [rCnt, if_neg h18, if_neg h26, if_pos h38]; done) | (rw [rCnt, if_neg h18, if_pos h26]; done)), rfl⟩
      · skip
        refine x_aload_n 30 C dX12_count_29 rfl rfl ?_
        refine x_mget 33 45 C fr_X12_251 dX12_count_30 rfl rfl hM ?_
        (try simp only [u2r, false_and, and_false, true_and, and_true, ↓reduceIte, Nat.reduceEqDiff])
        refine x_goto 52 C dX12_count_33 (by decide) ?_
        exact x_iret C dX12_count_52 rfl ⟨vi (by first | (rw [rCnt, if_pos h18]; done) | (rw [rCnt, if_neg h18, if_neg h26, if_neg h38]; done) | (rw [rCnt, if_neg h18, if_neg h26, if_pos h38]; done) | (rw [rCnt, if_neg h18, if_pos h26]; done)), rfl⟩
    · skip
      replace h18 := of_decide_eq_true h18
      refine x_iconst 22 C dX12_count_21 rfl ?_
      refine x_goto 52 C dX12_count_22 (by decide) ?_
      exact x_iret C dX12_count_52 rfl ⟨vi (by first | (rw [rCnt, if_pos h18]; done) | (rw [rCnt, if_neg h18, if_neg h26, if_neg h38]; done) | (rw [rCnt, if_neg h18, if_neg h26, if_pos h38]; done) | (rw [rCnt, if_neg h18, if_pos h26]; done)), rfl⟩
  · skip
    refine x_iload_n 2 C dX12_count_1 rfl rfl ?_
    refine x_iconst 3 C dX12_count_2 rfl ?_
    refine x_iconst 4 C dX12_count_3 rfl ?_
    refine x_Sr (As := [_, _, _]) 7 C vw_X12_168 tw_X12_lies (c_X12_lies (by first | assumption | omega) (by omega) (by omega)) dX12_count_4 rfl rfl rfl ⟨Nat.le_of_ble_eq_true rfl, Nat.le_of_ble_eq_true rfl⟩ (Nat.le_of_ble_eq_true rfl) ?_
    refine x_if_eqB 10 14 C dX12_count_7 rfl (by decide) (fun h7 => ?_) (fun h7 => ?_)
    · skip
      refine x_iconst 15 C dX12_count_14 rfl ?_
      exact hJ15 _ (by first | (simp [bI, rCntC, h7]; done) | (simp [bI, rCntC, h7]; omega) | (simp [bI, rCntC, h7] at *; omega))
    · skip
      refine x_iconst 11 C dX12_count_10 rfl ?_
      refine x_goto 15 C dX12_count_11 (by decide) ?_
      exact hJ15 _ (by first | (simp [bI, rCntC, h7]; done) | (simp [bI, rCntC, h7]; omega) | (simp [bI, rCntC, h7] at *; omega))
