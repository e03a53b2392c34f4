/-! rows laid by program (wip/tools/gen.py) -/
set_option maxHeartbeats 4000000 in
set_option maxRecDepth 100000 in
theorem c_X12_closes {E : EV} {l : Launch} {G : GT} {R : RT} {o : Nat} {a : Int} (hM : RM G o) (h1 : 0 ≤ a ∧ a < R 44 0) (hL : 0 ≤ R 44 0 ∧ R 44 0 ≤ 6) : MT E l yX12_closes cX12_closes 3 none 0 0 0 0 [.ref o, .int (i32 a)] (wR G R) (pD none (wR G (rCloses R a))) := by
  refine mt_of (own := RX12) (L := [some (.ref o), some (.int (i32 a)), none]) (by decide +kernel) rfl (Nat.le_of_ble_eq_true rfl) (List.forall_mem_cons.mpr ⟨rfl, (List.forall_mem_cons.mpr ⟨rfl, (fun _ h => absurd h List.not_mem_nil)⟩)⟩) rfl ?_
  intro p e s m args below meth c C hin
  refine x_wf (fun hw => ?_)
  have hr0 : ∀ k j, InR (R k j) := hw.2.2.1
  have hz0 : ∀ k j, mZ k = true → R k j = 0 ∨ R k j = 1 := hw.2.2.2.2.1
  refine x_aload_n 1 C dX12_closes_0 rfl rfl ?_
  refine x_dup 2 C dX12_closes_1 rfl rfl ?_
  refine x_mget 5 44 C fr_X12_241 dX12_closes_2 rfl rfl hM ?_
  refine x_iconst 6 C dX12_closes_5 rfl ?_
  refine x_isub 7 C dX12_closes_6 rfl ?_
  refine x_mput 10 44 C fw_X12_241 dX12_closes_7 rfl rfl rfl hM (by first | exact hr1 _ _ | exact hw.2.2.1 _ _ | exact hr0 _ _ | assumption | omega | exact ⟨by omega, by omega⟩) (fun z => absurd z (by decide)) ?_
  refine x_wf (fun hw => ?_)
  refine x_iload_n 11 C dX12_closes_10 rfl rfl ?_
  refine x_istore_n 12 C dX12_closes_11 rfl rfl rfl ?_
  refine x_loop (α := Int) (fun k => (R 44 0 - k).toNat) (fun k => a ≤ k ∧ k ≤ R 44 0 - 1) (fun k => wR G (rShift 46 52 (u2 R 44 0 (R 44 0 - 1)) a k)) (fun k => [some (.ref o), some (.int (i32 a)), some (.int (i32 k))]) (fun _ => []) a ⟨by omega, by omega⟩ (congrArg (wR G) rShift_0) rfl rfl ?_
  intro aa hI ih
  obtain ⟨k, rfl⟩ := (⟨aa, rfl⟩ : ∃ z, z = aa)
  (try dsimp only at hI); (try dsimp only at ih); (try dsimp only)
  obtain ⟨i1, i2⟩ := hI
  refine x_wf (fun hw => ?_)
  have hr1 : ∀ f j, InR (rShift 46 52 (u2 R 44 0 (R 44 0 - 1)) a k f j) := hw.2.2.1
  have hz1 : ∀ f j, mZ f = true → rShift 46 52 (u2 R 44 0 (R 44 0 - 1)) a k f j = 0 ∨ rShift 46 52 (u2 R 44 0 (R 44 0 - 1)) a k f j = 1 := hw.2.2.2.2.1
  have e44 : rShift 46 52 (u2 R 44 0 (R 44 0 - 1)) a k 44 0 = R 44 0 - 1 := by rw [rShift_out (by omega), u2_s]
  have et : (k + 1).toNat = k.toNat + 1 := by omega
  refine x_iload_n 13 C dX12_closes_12 rfl rfl ?_
  refine x_aload_n 14 C dX12_closes_13 rfl rfl ?_
  refine x_mget 17 44 C fr_X12_241 dX12_closes_14 rfl rfl hM ?_
  (try simp only [u2r, false_and, and_false, true_and, and_true, ↓reduceIte, Nat.reduceEqDiff])
  rw [e44]
  refine x_icmp_ge 20 124 C dX12_closes_17 rfl (by decide) (by first | exact hr1 _ _ | exact hw.2.2.1 _ _ | exact hr0 _ _ | assumption | omega | exact ⟨by omega, by omega⟩) (by first | exact hr1 _ _ | exact hw.2.2.1 _ _ | exact hr0 _ _ | assumption | omega | exact ⟨by omega, by omega⟩) (fun h17 => ?_) (fun h17 => ?_)
  · skip
    exact x_ret C dX12_closes_124 ⟨rfl, congrArg (wR G) (by rw [show k = R 44 0 - 1 by omega]; rfl)⟩
  · skip
    refine x_aload_n 21 C dX12_closes_20 rfl rfl ?_
    refine x_mrow 24 46 C fr_X12_119 dX12_closes_21 rfl rfl hM ?_
    refine x_iload_n 25 C dX12_closes_24 rfl rfl ?_
    refine x_aload_n 26 C dX12_closes_25 rfl rfl ?_
    refine x_mrow 29 46 C fr_X12_119 dX12_closes_26 rfl rfl hM ?_
    refine x_iload_n 30 C dX12_closes_29 rfl rfl ?_
    refine x_iconst 31 C dX12_closes_30 rfl ?_
    refine x_iadd 32 C dX12_closes_31 rfl ?_
    refine x_mldI 33 46 C dX12_closes_32 rfl rfl hM (by first | exact hIx | exact ⟨by omega, Int.lt_of_lt_of_le (b := 6) (by omega) (by decide)⟩) ?_
    (try simp only [u2r, false_and, and_false, true_and, and_true, ↓reduceIte, Nat.reduceEqDiff])
    refine x_mstI 34 46 C dX12_closes_33 rfl rfl hM ⟨by omega, Int.lt_of_lt_of_le (b := 6) (by omega) (by decide)⟩ (by first | exact hr1 _ _ | exact hw.2.2.1 _ _ | exact hr0 _ _ | assumption | omega | exact ⟨by omega, by omega⟩) ?_
    refine x_wf (fun hw => ?_)
    refine x_aload_n 35 C dX12_closes_34 rfl rfl ?_
    refine x_mrow 38 47 C fr_X12_122 dX12_closes_35 rfl rfl hM ?_
    refine x_iload_n 39 C dX12_closes_38 rfl rfl ?_
    refine x_aload_n 40 C dX12_closes_39 rfl rfl ?_
    refine x_mrow 43 47 C fr_X12_122 dX12_closes_40 rfl rfl hM ?_
    refine x_iload_n 44 C dX12_closes_43 rfl rfl ?_
    refine x_iconst 45 C dX12_closes_44 rfl ?_
    refine x_iadd 46 C dX12_closes_45 rfl ?_
    refine x_mldI 47 47 C dX12_closes_46 rfl rfl hM (by first | exact hIx | exact ⟨by omega, Int.lt_of_lt_of_le (b := 6) (by omega) (by decide)⟩) ?_
    (try simp only [u2r, false_and, and_false, true_and, and_true, ↓reduceIte, Nat.reduceEqDiff])
    refine x_mstI 48 47 C dX12_closes_47 rfl rfl hM ⟨by omega, Int.lt_of_lt_of_le (b := 6) (by omega) (by decide)⟩ (by first | exact hr1 _ _ | exact hw.2.2.1 _ _ | exact hr0 _ _ | assumption | omega | exact ⟨by omega, by omega⟩) ?_
    refine x_wf (fun hw => ?_)
    refine x_aload_n 49 C dX12_closes_48 rfl rfl ?_
    refine x_mrow 52 48 C fr_X12_125 dX12_closes_49 rfl rfl hM ?_
    refine x_iload_n 53 C dX12_closes_52 rfl rfl ?_
    refine x_aload_n 54 C dX12_closes_53 rfl rfl ?_
    refine x_mrow 57 48 C fr_X12_125 dX12_closes_54 rfl rfl hM ?_
    refine x_iload_n 58 C dX12_closes_57 rfl rfl ?_
    refine x_iconst 59 C dX12_closes_58 rfl ?_
    refine x_iadd 60 C dX12_closes_59 rfl ?_
    refine x_mldI 61 48 C dX12_closes_60 rfl rfl hM (by first | exact hIx | exact ⟨by omega, Int.lt_of_lt_of_le (b := 6) (by omega) (by decide)⟩) ?_
    (try simp only [u2r, false_and, and_false, true_and, and_true, ↓reduceIte, Nat.reduceEqDiff])
    refine x_mstI 62 48 C dX12_closes_61 rfl rfl hM ⟨by omega, Int.lt_of_lt_of_le (b := 6) (by omega) (by decide)⟩ (by first | exact hr1 _ _ | exact hw.2.2.1 _ _ | exact hr0 _ _ | assumption | omega | exact ⟨by omega, by omega⟩) ?_
    refine x_wf (fun hw => ?_)
    refine x_aload_n 63 C dX12_closes_62 rfl rfl ?_
    refine x_mrow 66 49 C fr_X12_128 dX12_closes_63 rfl rfl hM ?_
    refine x_iload_n 67 C dX12_closes_66 rfl rfl ?_
    refine x_aload_n 68 C dX12_closes_67 rfl rfl ?_
    refine x_mrow 71 49 C fr_X12_128 dX12_closes_68 rfl rfl hM ?_
    refine x_iload_n 72 C dX12_closes_71 rfl rfl ?_
    refine x_iconst 73 C dX12_closes_72 rfl ?_
    refine x_iadd 74 C dX12_closes_73 rfl ?_
    refine x_mldZ 75 49 C dX12_closes_74 rfl rfl hM (by first | exact hIx | exact ⟨by omega, Int.lt_of_lt_of_le (b := 6) (by omega) (by decide)⟩) ?_
    (try simp only [u2r, false_and, and_false, true_and, and_true, ↓reduceIte, Nat.reduceEqDiff])
    refine x_mstZ 76 49 C dX12_closes_75 rfl rfl hM ⟨by omega, Int.lt_of_lt_of_le (b := 6) (by omega) (by decide)⟩ (by first | exact hz1 _ _ rfl | assumption | omega | exact bI_01 _ | exact hw.2.2.2.2.1 _ _ rfl | exact hz0 _ _ rfl) ?_
    refine x_wf (fun hw => ?_)
    refine x_aload_n 77 C dX12_closes_76 rfl rfl ?_
    refine x_mrow 80 50 C fr_X12_131 dX12_closes_77 rfl rfl hM ?_
    refine x_iload_n 81 C dX12_closes_80 rfl rfl ?_
    refine x_aload_n 82 C dX12_closes_81 rfl rfl ?_
    refine x_mrow 85 50 C fr_X12_131 dX12_closes_82 rfl rfl hM ?_
    refine x_iload_n 86 C dX12_closes_85 rfl rfl ?_
    refine x_iconst 87 C dX12_closes_86 rfl ?_
    refine x_iadd 88 C dX12_closes_87 rfl ?_
    refine x_mldI 89 50 C dX12_closes_88 rfl rfl hM (by first | exact hIx | exact ⟨by omega, Int.lt_of_lt_of_le (b := 6) (by omega) (by decide)⟩) ?_
    (try simp only [u2r, false_and, and_false, true_and, and_true, ↓reduceIte, Nat.reduceEqDiff])
    refine x_mstI 90 50 C dX12_closes_89 rfl rfl hM ⟨by omega, Int.lt_of_lt_of_le (b := 6) (by omega) (by decide)⟩ (by first | exact hr1 _ _ | exact hw.2.2.1 _ _ | exact hr0 _ _ | assumption | omega | exact ⟨by omega, by omega⟩) ?_
    refine x_wf (fun hw => ?_)
    refine x_aload_n 91 C dX12_closes_90 rfl rfl ?_
    refine x_mrow 94 51 C fr_X12_134 dX12_closes_91 rfl rfl hM ?_
    refine x_iload_n 95 C dX12_closes_94 rfl rfl ?_
    refine x_aload_n 96 C dX12_closes_95 rfl rfl ?_
    refine x_mrow 99 51 C fr_X12_134 dX12_closes_96 rfl rfl hM ?_
    refine x_iload_n 100 C dX12_closes_99 rfl rfl ?_
    refine x_iconst 101 C dX12_closes_100 rfl ?_
    refine x_iadd 102 C dX12_closes_101 rfl ?_
    refine x_mldI 103 51 C dX12_closes_102 rfl rfl hM (by first | exact hIx | exact ⟨by omega, Int.lt_of_lt_of_le (b := 6) (by omega) (by decide)⟩) ?_
    (try simp only [u2r, false_and, and_false, true_and, and_true, ↓reduceIte, Nat.reduceEqDiff])
    refine x_mstI 104 51 C dX12_closes_103 rfl rfl hM ⟨by omega, Int.lt_of_lt_of_le (b := 6) (by omega) (by decide)⟩ (by first | exact hr1 _ _ | exact hw.2.2.1 _ _ | exact hr0 _ _ | assumption | omega | exact ⟨by omega, by omega⟩) ?_
    refine x_wf (fun hw => ?_)
    refine x_aload_n 105 C dX12_closes_104 rfl rfl ?_
    refine x_mrow 108 52 C fr_X12_137 dX12_closes_105 rfl rfl hM ?_
    refine x_iload_n 109 C dX12_closes_108 rfl rfl ?_
    refine x_aload_n 110 C dX12_closes_109 rfl rfl ?_
    refine x_mrow 113 52 C fr_X12_137 dX12_closes_110 rfl rfl hM ?_
    refine x_iload_n 114 C dX12_closes_113 rfl rfl ?_
    refine x_iconst 115 C dX12_closes_114 rfl ?_
    refine x_iadd 116 C dX12_closes_115 rfl ?_
    refine x_mldI 117 52 C dX12_closes_116 rfl rfl hM (by first | exact hIx | exact ⟨by omega, Int.lt_of_lt_of_le (b := 6) (by omega) (by decide)⟩) ?_
    (try simp only [u2r, false_and, and_false, true_and, and_true, ↓reduceIte, Nat.reduceEqDiff])
    refine x_mstI 118 52 C dX12_closes_117 rfl rfl hM ⟨by omega, Int.lt_of_lt_of_le (b := 6) (by omega) (by decide)⟩ (by first | exact hr1 _ _ | exact hw.2.2.1 _ _ | exact hr0 _ _ | assumption | omega | exact ⟨by omega, by omega⟩) ?_
    refine x_wf (fun hw => ?_)
    refine x_iinc 121 C dX12_closes_118 rfl rfl rfl rfl ?_
    refine x_goto 12 C dX12_closes_121 (by decide) ?_
    refine x_as (congrArg (wR G) ?_) rfl rfl (ih (k + 1) ⟨by omega, by omega⟩ (by omega))
    rw [rShift_step [46, 47, 48, 49, 50, 51, 52] (by omega) i1 (fun f => by simp; omega), et]
    rfl
set_option maxHeartbeats 4000000 in
set_option maxRecDepth 100000 in
theorem c_X12_drops {E : EV} {l : Launch} {G : GT} {R : RT} {o : Nat} {a : Int} (hM : RM G o) (h1 : 0 ≤ a ∧ a < R 34 0) (hL : 0 ≤ R 34 0 ∧ R 34 0 ≤ 12) : MT E l yX12_drops cX12_drops 3 none 0 0 0 0 [.ref o, .int (i32 a)] (wR G R) (pD none (wR G (rDrops R a))) := by
  refine mt_of (own := RX12) (L := [some (.ref o), some (.int (i32 a)), none]) (by decide +kernel) rfl (Nat.le_of_ble_eq_true rfl) (List.forall_mem_cons.mpr ⟨rfl, (List.forall_mem_cons.mpr ⟨rfl, (fun _ h => absurd h List.not_mem_nil)⟩)⟩) rfl ?_
  intro p e s m args below meth c C hin
  refine x_wf (fun hw => ?_)
  have hr0 : ∀ k j, InR (R k j) := hw.2.2.1
  have hz0 : ∀ k j, mZ k = true → R k j = 0 ∨ R k j = 1 := hw.2.2.2.2.1
  refine x_aload_n 1 C dX12_drops_0 rfl rfl ?_
  refine x_dup 2 C dX12_drops_1 rfl rfl ?_
  refine x_mget 5 34 C fr_X12_260 dX12_drops_2 rfl rfl hM ?_
  refine x_iconst 6 C dX12_drops_5 rfl ?_
  refine x_isub 7 C dX12_drops_6 rfl ?_
  refine x_mput 10 34 C fw_X12_260 dX12_drops_7 rfl rfl rfl hM (by first | exact hr1 _ _ | exact hw.2.2.1 _ _ | exact hr0 _ _ | assumption | omega | exact ⟨by omega, by omega⟩) (fun z => absurd z (by decide)) ?_
  refine x_wf (fun hw => ?_)
  refine x_iload_n 11 C dX12_drops_10 rfl rfl ?_
  refine x_istore_n 12 C dX12_drops_11 rfl rfl rfl ?_
  refine x_loop (α := Int) (fun k => (R 34 0 - k).toNat) (fun k => a ≤ k ∧ k ≤ R 34 0 - 1) (fun k => wR G (rShift 35 43 (u2 R 34 0 (R 34 0 - 1)) a k)) (fun k => [some (.ref o), some (.int (i32 a)), some (.int (i32 k))]) (fun _ => []) a ⟨by omega, by omega⟩ (congrArg (wR G) rShift_0) rfl rfl ?_
  intro aa hI ih
  obtain ⟨k, rfl⟩ := (⟨aa, rfl⟩ : ∃ z, z = aa)
  (try dsimp only at hI); (try dsimp only at ih); (try dsimp only)
  obtain ⟨i1, i2⟩ := hI
  refine x_wf (fun hw => ?_)
  have hr1 : ∀ f j, InR (rShift 35 43 (u2 R 34 0 (R 34 0 - 1)) a k f j) := hw.2.2.1
  have hz1 : ∀ f j, mZ f = true → rShift 35 43 (u2 R 34 0 (R 34 0 - 1)) a k f j = 0 ∨ rShift 35 43 (u2 R 34 0 (R 34 0 - 1)) a k f j = 1 := hw.2.2.2.2.1
  have e44 : rShift 35 43 (u2 R 34 0 (R 34 0 - 1)) a k 34 0 = R 34 0 - 1 := by rw [rShift_out (by omega), u2_s]
  have et : (k + 1).toNat = k.toNat + 1 := by omega
  refine x_iload_n 13 C dX12_drops_12 rfl rfl ?_
  refine x_aload_n 14 C dX12_drops_13 rfl rfl ?_
  refine x_mget 17 34 C fr_X12_260 dX12_drops_14 rfl rfl hM ?_
  (try simp only [u2r, false_and, and_false, true_and, and_true, ↓reduceIte, Nat.reduceEqDiff])
  rw [e44]
  refine x_icmp_ge 20 152 C dX12_drops_17 rfl (by decide) (by first | exact hr1 _ _ | exact hw.2.2.1 _ _ | exact hr0 _ _ | assumption | omega | exact ⟨by omega, by omega⟩) (by first | exact hr1 _ _ | exact hw.2.2.1 _ _ | exact hr0 _ _ | assumption | omega | exact ⟨by omega, by omega⟩) (fun h17 => ?_) (fun h17 => ?_)
  · skip
    exact x_ret C dX12_drops_152 ⟨rfl, congrArg (wR G) (by rw [show k = R 34 0 - 1 by omega]; rfl)⟩
  · skip
    refine x_aload_n 21 C dX12_drops_20 rfl rfl ?_
    refine x_mrow 24 35 C fr_X12_92 dX12_drops_21 rfl rfl hM ?_
    refine x_iload_n 25 C dX12_drops_24 rfl rfl ?_
    refine x_aload_n 26 C dX12_drops_25 rfl rfl ?_
    refine x_mrow 29 35 C fr_X12_92 dX12_drops_26 rfl rfl hM ?_
    refine x_iload_n 30 C dX12_drops_29 rfl rfl ?_
    refine x_iconst 31 C dX12_drops_30 rfl ?_
    refine x_iadd 32 C dX12_drops_31 rfl ?_
    refine x_mldI 33 35 C dX12_drops_32 rfl rfl hM (by first | exact hIx | exact ⟨by omega, Int.lt_of_lt_of_le (b := 12) (by omega) (by decide)⟩) ?_
    (try simp only [u2r, false_and, and_false, true_and, and_true, ↓reduceIte, Nat.reduceEqDiff])
    refine x_mstI 34 35 C dX12_drops_33 rfl rfl hM ⟨by omega, Int.lt_of_lt_of_le (b := 12) (by omega) (by decide)⟩ (by first | exact hr1 _ _ | exact hw.2.2.1 _ _ | exact hr0 _ _ | assumption | omega | exact ⟨by omega, by omega⟩) ?_
    refine x_wf (fun hw => ?_)
    refine x_aload_n 35 C dX12_drops_34 rfl rfl ?_
    refine x_mrow 38 36 C fr_X12_95 dX12_drops_35 rfl rfl hM ?_
    refine x_iload_n 39 C dX12_drops_38 rfl rfl ?_
    refine x_aload_n 40 C dX12_drops_39 rfl rfl ?_
    refine x_mrow 43 36 C fr_X12_95 dX12_drops_40 rfl rfl hM ?_
    refine x_iload_n 44 C dX12_drops_43 rfl rfl ?_
    refine x_iconst 45 C dX12_drops_44 rfl ?_
    refine x_iadd 46 C dX12_drops_45 rfl ?_
    refine x_mldI 47 36 C dX12_drops_46 rfl rfl hM (by first | exact hIx | exact ⟨by omega, Int.lt_of_lt_of_le (b := 12) (by omega) (by decide)⟩) ?_
    (try simp only [u2r, false_and, and_false, true_and, and_true, ↓reduceIte, Nat.reduceEqDiff])
    refine x_mstI 48 36 C dX12_drops_47 rfl rfl hM ⟨by omega, Int.lt_of_lt_of_le (b := 12) (by omega) (by decide)⟩ (by first | exact hr1 _ _ | exact hw.2.2.1 _ _ | exact hr0 _ _ | assumption | omega | exact ⟨by omega, by omega⟩) ?_
    refine x_wf (fun hw => ?_)
    refine x_aload_n 49 C dX12_drops_48 rfl rfl ?_
    refine x_mrow 52 37 C fr_X12_98 dX12_drops_49 rfl rfl hM ?_
    refine x_iload_n 53 C dX12_drops_52 rfl rfl ?_
    refine x_aload_n 54 C dX12_drops_53 rfl rfl ?_
    refine x_mrow 57 37 C fr_X12_98 dX12_drops_54 rfl rfl hM ?_
    refine x_iload_n 58 C dX12_drops_57 rfl rfl ?_
    refine x_iconst 59 C dX12_drops_58 rfl ?_
    refine x_iadd 60 C dX12_drops_59 rfl ?_
    refine x_mldI 61 37 C dX12_drops_60 rfl rfl hM (by first | exact hIx | exact ⟨by omega, Int.lt_of_lt_of_le (b := 12) (by omega) (by decide)⟩) ?_
    (try simp only [u2r, false_and, and_false, true_and, and_true, ↓reduceIte, Nat.reduceEqDiff])
    refine x_mstI 62 37 C dX12_drops_61 rfl rfl hM ⟨by omega, Int.lt_of_lt_of_le (b := 12) (by omega) (by decide)⟩ (by first | exact hr1 _ _ | exact hw.2.2.1 _ _ | exact hr0 _ _ | assumption | omega | exact ⟨by omega, by omega⟩) ?_
    refine x_wf (fun hw => ?_)
    refine x_aload_n 63 C dX12_drops_62 rfl rfl ?_
    refine x_mrow 66 38 C fr_X12_101 dX12_drops_63 rfl rfl hM ?_
    refine x_iload_n 67 C dX12_drops_66 rfl rfl ?_
    refine x_aload_n 68 C dX12_drops_67 rfl rfl ?_
    refine x_mrow 71 38 C fr_X12_101 dX12_drops_68 rfl rfl hM ?_
    refine x_iload_n 72 C dX12_drops_71 rfl rfl ?_
    refine x_iconst 73 C dX12_drops_72 rfl ?_
    refine x_iadd 74 C dX12_drops_73 rfl ?_
    refine x_mldZ 75 38 C dX12_drops_74 rfl rfl hM (by first | exact hIx | exact ⟨by omega, Int.lt_of_lt_of_le (b := 12) (by omega) (by decide)⟩) ?_
    (try simp only [u2r, false_and, and_false, true_and, and_true, ↓reduceIte, Nat.reduceEqDiff])
    refine x_mstZ 76 38 C dX12_drops_75 rfl rfl hM ⟨by omega, Int.lt_of_lt_of_le (b := 12) (by omega) (by decide)⟩ (by first | exact hz1 _ _ rfl | assumption | omega | exact bI_01 _ | exact hw.2.2.2.2.1 _ _ rfl | exact hz0 _ _ rfl) ?_
    refine x_wf (fun hw => ?_)
    refine x_aload_n 77 C dX12_drops_76 rfl rfl ?_
    refine x_mrow 80 39 C fr_X12_104 dX12_drops_77 rfl rfl hM ?_
    refine x_iload_n 81 C dX12_drops_80 rfl rfl ?_
    refine x_aload_n 82 C dX12_drops_81 rfl rfl ?_
    refine x_mrow 85 39 C fr_X12_104 dX12_drops_82 rfl rfl hM ?_
    refine x_iload_n 86 C dX12_drops_85 rfl rfl ?_
    refine x_iconst 87 C dX12_drops_86 rfl ?_
    refine x_iadd 88 C dX12_drops_87 rfl ?_
    refine x_mldI 89 39 C dX12_drops_88 rfl rfl hM (by first | exact hIx | exact ⟨by omega, Int.lt_of_lt_of_le (b := 12) (by omega) (by decide)⟩) ?_
    (try simp only [u2r, false_and, and_false, true_and, and_true, ↓reduceIte, Nat.reduceEqDiff])
    refine x_mstI 90 39 C dX12_drops_89 rfl rfl hM ⟨by omega, Int.lt_of_lt_of_le (b := 12) (by omega) (by decide)⟩ (by first | exact hr1 _ _ | exact hw.2.2.1 _ _ | exact hr0 _ _ | assumption | omega | exact ⟨by omega, by omega⟩) ?_
    refine x_wf (fun hw => ?_)
    refine x_aload_n 91 C dX12_drops_90 rfl rfl ?_
    refine x_mrow 94 40 C fr_X12_107 dX12_drops_91 rfl rfl hM ?_
    refine x_iload_n 95 C dX12_drops_94 rfl rfl ?_
    refine x_aload_n 96 C dX12_drops_95 rfl rfl ?_
    refine x_mrow 99 40 C fr_X12_107 dX12_drops_96 rfl rfl hM ?_
    refine x_iload_n 100 C dX12_drops_99 rfl rfl ?_
    refine x_iconst 101 C dX12_drops_100 rfl ?_
    refine x_iadd 102 C dX12_drops_101 rfl ?_
    refine x_mldI 103 40 C dX12_drops_102 rfl rfl hM (by first | exact hIx | exact ⟨by omega, Int.lt_of_lt_of_le (b := 12) (by omega) (by decide)⟩) ?_
    (try simp only [u2r, false_and, and_false, true_and, and_true, ↓reduceIte, Nat.reduceEqDiff])
    refine x_mstI 104 40 C dX12_drops_103 rfl rfl hM ⟨by omega, Int.lt_of_lt_of_le (b := 12) (by omega) (by decide)⟩ (by first | exact hr1 _ _ | exact hw.2.2.1 _ _ | exact hr0 _ _ | assumption | omega | exact ⟨by omega, by omega⟩) ?_
    refine x_wf (fun hw => ?_)
    refine x_aload_n 105 C dX12_drops_104 rfl rfl ?_
    refine x_mrow 108 41 C fr_X12_110 dX12_drops_105 rfl rfl hM ?_
    refine x_iload_n 109 C dX12_drops_108 rfl rfl ?_
    refine x_aload_n 110 C dX12_drops_109 rfl rfl ?_
    refine x_mrow 113 41 C fr_X12_110 dX12_drops_110 rfl rfl hM ?_
    refine x_iload_n 114 C dX12_drops_113 rfl rfl ?_
    refine x_iconst 115 C dX12_drops_114 rfl ?_
    refine x_iadd 116 C dX12_drops_115 rfl ?_
    refine x_mldI 117 41 C dX12_drops_116 rfl rfl hM (by first | exact hIx | exact ⟨by omega, Int.lt_of_lt_of_le (b := 12) (by omega) (by decide)⟩) ?_
    (try simp only [u2r, false_and, and_false, true_and, and_true, ↓reduceIte, Nat.reduceEqDiff])
    refine x_mstI 118 41 C dX12_drops_117 rfl rfl hM ⟨by omega, Int.lt_of_lt_of_le (b := 12) (by omega) (by decide)⟩ (by first | exact hr1 _ _ | exact hw.2.2.1 _ _ | exact hr0 _ _ | assumption | omega | exact ⟨by omega, by omega⟩) ?_
    refine x_wf (fun hw => ?_)
    refine x_aload_n 119 C dX12_drops_118 rfl rfl ?_
    refine x_mrow 122 42 C fr_X12_113 dX12_drops_119 rfl rfl hM ?_
    refine x_iload_n 123 C dX12_drops_122 rfl rfl ?_
    refine x_aload_n 124 C dX12_drops_123 rfl rfl ?_
    refine x_mrow 127 42 C fr_X12_113 dX12_drops_124 rfl rfl hM ?_
    refine x_iload_n 128 C dX12_drops_127 rfl rfl ?_
    refine x_iconst 129 C dX12_drops_128 rfl ?_
    refine x_iadd 130 C dX12_drops_129 rfl ?_
    refine x_mldI 131 42 C dX12_drops_130 rfl rfl hM (by first | exact hIx | exact ⟨by omega, Int.lt_of_lt_of_le (b := 12) (by omega) (by decide)⟩) ?_
    (try simp only [u2r, false_and, and_false, true_and, and_true, ↓reduceIte, Nat.reduceEqDiff])
    refine x_mstI 132 42 C dX12_drops_131 rfl rfl hM ⟨by omega, Int.lt_of_lt_of_le (b := 12) (by omega) (by decide)⟩ (by first | exact hr1 _ _ | exact hw.2.2.1 _ _ | exact hr0 _ _ | assumption | omega | exact ⟨by omega, by omega⟩) ?_
    refine x_wf (fun hw => ?_)
    refine x_aload_n 133 C dX12_drops_132 rfl rfl ?_
    refine x_mrow 136 43 C fr_X12_116 dX12_drops_133 rfl rfl hM ?_
    refine x_iload_n 137 C dX12_drops_136 rfl rfl ?_
    refine x_aload_n 138 C dX12_drops_137 rfl rfl ?_
    refine x_mrow 141 43 C fr_X12_116 dX12_drops_138 rfl rfl hM ?_
    refine x_iload_n 142 C dX12_drops_141 rfl rfl ?_
    refine x_iconst 143 C dX12_drops_142 rfl ?_
    refine x_iadd 144 C dX12_drops_143 rfl ?_
    refine x_mldI 145 43 C dX12_drops_144 rfl rfl hM (by first | exact hIx | exact ⟨by omega, Int.lt_of_lt_of_le (b := 12) (by omega) (by decide)⟩) ?_
    (try simp only [u2r, false_and, and_false, true_and, and_true, ↓reduceIte, Nat.reduceEqDiff])
    refine x_mstI 146 43 C dX12_drops_145 rfl rfl hM ⟨by omega, Int.lt_of_lt_of_le (b := 12) (by omega) (by decide)⟩ (by first | exact hr1 _ _ | exact hw.2.2.1 _ _ | exact hr0 _ _ | assumption | omega | exact ⟨by omega, by omega⟩) ?_
    refine x_wf (fun hw => ?_)
    refine x_iinc 149 C dX12_drops_146 rfl rfl rfl rfl ?_
    refine x_goto 12 C dX12_drops_149 (by decide) ?_
    refine x_as (congrArg (wR G) ?_) rfl rfl (ih (k + 1) ⟨by omega, by omega⟩ (by omega))
    rw [rShift_step [35, 36, 37, 38, 39, 40, 41, 42, 43] (by omega) i1 (fun f => by simp; omega), et]
    rfl
set_option maxHeartbeats 4000000 in
set_option maxRecDepth 100000 in
theorem c_X12_many {E : EV} {l : Launch} {G : GT} {R : RT} {w : Int} (h1 : InR w) : MT E l yX12_many cX12_many 1 (some .int) 0 0 0 0 [.int (i32 w)] (wR G R) (pD (some (.int (i32 (rMany w)))) (wR G (R))) := by
  refine mt_of (own := RX12) (L := [some (.int (i32 w))]) (by decide +kernel) rfl (Nat.le_of_ble_eq_true rfl) (List.forall_mem_cons.mpr ⟨rfl, (fun _ h => absurd h List.not_mem_nil)⟩) rfl ?_
  intro p e s m args below meth c C hin
  refine x_wf (fun hw => ?_)
  have hr0 : ∀ k j, InR (R k j) := hw.2.2.1
  have hz0 : ∀ k j, mZ k = true → R k j = 0 ∨ R k j = 1 := hw.2.2.2.2.1
  refine x_iload_n 1 C dX12_many_0 rfl rfl ?_
  refine x_bipush 3 C dX12_many_1 rfl (by decide) ?_
  refine x_icmp_le 6 10 C dX12_many_3 rfl (by decide) (by first | exact hw.2.2.1 _ _ | exact hr0 _ _ | assumption | omega | exact ⟨by omega, by omega⟩) (by first | exact hw.2.2.1 _ _ | exact hr0 _ _ | assumption | omega | exact ⟨by omega, by omega⟩) (fun h3 => ?_) (fun h3 => ?_)
  · skip
    refine x_iload_n 11 C dX12_many_10 rfl rfl ?_
    refine x_bipush 13 C dX12_many_11 rfl (by decide) ?_
    refine x_icmp_le 16 20 C dX12_many_13 rfl (by decide) (by first | exact hw.2.2.1 _ _ | exact hr0 _ _ | assumption | omega | exact ⟨by omega, by omega⟩) (by first | exact hw.2.2.1 _ _ | exact hr0 _ _ | assumption | omega | exact ⟨by omega, by omega⟩) (fun h13 => ?_) (fun h13 => ?_)
    · skip
      refine x_iload_n 21 C dX12_many_20 rfl rfl ?_
      refine x_if_le 24 28 C dX12_many_21 rfl (by decide) (by first | exact hw.2.2.1 _ _ | exact hr0 _ _ | assumption | omega | exact ⟨by omega, by omega⟩) (fun h21 => ?_) (fun h21 => ?_)
      · skip
        refine x_iconst 29 C dX12_many_28 rfl ?_
        exact x_iret C dX12_many_29 rfl ⟨vi (by first | rfl | (simp [bI, rMany, h3, h13, h21]; done) | (simp [bI, rMany, h3, h13, h21] <;> omega) | (exfalso; simp_all; done)), rfl⟩
      · skip
        refine x_iconst 25 C dX12_many_24 rfl ?_
        refine x_goto 29 C dX12_many_25 (by decide) ?_
        exact x_iret C dX12_many_29 rfl ⟨vi (by first | rfl | (simp [bI, rMany, h3, h13, h21]; done) | (simp [bI, rMany, h3, h13, h21] <;> omega) | (exfalso; simp_all; done)), rfl⟩
    · skip
      refine x_iconst 17 C dX12_many_16 rfl ?_
      refine x_goto 29 C dX12_many_17 (by decide) ?_
      exact x_iret C dX12_many_29 rfl ⟨vi (by first | rfl | (simp [bI, rMany, h3, h13]; done) | (simp [bI, rMany, h3, h13] <;> omega) | (exfalso; simp_all; done)), rfl⟩
  · skip
    refine x_iconst 7 C dX12_many_6 rfl ?_
    refine x_goto 29 C dX12_many_7 (by decide) ?_
    exact x_iret C dX12_many_29 rfl ⟨vi (by first | rfl | (simp [bI, rMany, h3]; done) | (simp [bI, rMany, h3] <;> omega) | (exfalso; simp_all; done)), rfl⟩
set_option maxHeartbeats 4000000 in
set_option maxRecDepth 100000 in
theorem c_X12_begins {E : EV} {l : Launch} {G : GT} {R : RT} {w q : Int} (h1 : InR w) (h2 : 0 ≤ q ∧ q ≤ 2147483647) : MT E l yX12_begins cX12_begins 4 (some .boolean) 1 20 0 0 [.int (i32 w), .int (i32 q)] (wR G R) (pD (some (.int (i32 (bI (rBegins w q))))) (wR G (R))) := by
  refine mt_of (own := RX12) (L := [some (.int (i32 w)), some (.int (i32 q)), none, none]) (by decide +kernel) rfl (Nat.le_of_ble_eq_true rfl) (List.forall_mem_cons.mpr ⟨rfl, (List.forall_mem_cons.mpr ⟨rfl, (fun _ h => absurd h List.not_mem_nil)⟩)⟩) rfl ?_
  intro p e s m args below meth c C hin
  refine x_wf (fun hw => ?_)
  have hr0 : ∀ k j, InR (R k j) := hw.2.2.1
  have hz0 : ∀ k j, mZ k = true → R k j = 0 ∨ R k j = 1 := hw.2.2.2.2.1
  have m1 := rMany_in w
  have m2 := rMany_in q
  refine x_iload_n 1 C dX12_begins_0 rfl rfl ?_
  refine x_istore_n 2 C dX12_begins_1 rfl rfl rfl ?_
  refine x_iload_n 3 C dX12_begins_2 rfl rfl ?_
  refine x_Sr (As := [_]) 6 C vw_X12_257 tw_X12_many (c_X12_many (by first | assumption | omega)) dX12_begins_3 rfl rfl rfl ⟨Nat.le_of_ble_eq_true rfl, Nat.le_of_ble_eq_true rfl⟩ (Nat.le_of_ble_eq_true rfl) ?_
  refine x_istore_n 7 C dX12_begins_6 rfl rfl rfl ?_
  refine x_loop (α := Int × Int) (fun ⟨x, k⟩ => (rMany q - k).toNat) (fun ⟨x, k⟩ => 0 ≤ x ∧ x ≤ 2147483647 ∧ rMany w ≤ k ∧ (k ≤ rMany q ∨ k = rMany w) ∧ rDivs (rMany q - k).toNat x = rDivs (rMany q - rMany w).toNat q) (fun ⟨x, k⟩ => wR G R) (fun ⟨x, k⟩ => [some (.int (i32 w)), some (.int (i32 q)), some (.int (i32 x)), some (.int (i32 k))]) (fun _ => []) (q, rMany w) ⟨h2.1, h2.2, by omega, by omega, rfl⟩ rfl rfl rfl ?_
  intro aa hI ih
  obtain ⟨x, k⟩ := aa
  (try dsimp only at hI); (try dsimp only at ih); (try dsimp only)
  obtain ⟨i1, i2, i3, i4, i5⟩ := hI
  refine x_iload_n 8 C dX12_begins_7 rfl rfl ?_
  refine x_iload_n 9 C dX12_begins_8 rfl rfl ?_
  refine x_Sr (As := [_]) 12 C vw_X12_257 tw_X12_many (c_X12_many (by first | assumption | omega)) dX12_begins_9 rfl rfl rfl ⟨Nat.le_of_ble_eq_true rfl, Nat.le_of_ble_eq_true rfl⟩ (Nat.le_of_ble_eq_true rfl) ?_
  refine x_icmp_ge 15 26 C dX12_begins_12 rfl (by decide) (by first | exact hw.2.2.1 _ _ | exact hr0 _ _ | assumption | omega | exact ⟨by omega, by omega⟩) (by first | exact hw.2.2.1 _ _ | exact hr0 _ _ | assumption | omega | exact ⟨by omega, by omega⟩) (fun h12 => ?_) (fun h12 => ?_)
  · skip
    refine x_iload_n 27 C dX12_begins_26 rfl rfl ?_
    refine x_iload_n 28 C dX12_begins_27 rfl rfl ?_
    refine x_icmp_ne 31 35 C dX12_begins_28 rfl (by decide) (by first | exact hw.2.2.1 _ _ | exact hr0 _ _ | assumption | omega | exact ⟨by omega, by omega⟩) (by first | exact hw.2.2.1 _ _ | exact hr0 _ _ | assumption | omega | exact ⟨by omega, by omega⟩) (fun h28 => ?_) (fun h28 => ?_)
    · skip
      refine x_iconst 36 C dX12_begins_35 rfl ?_
      exact x_iret C dX12_begins_36 (by first | rfl | exact nar_b _ | exact nar_01 (by first | assumption | omega | exact hw.2.2.2.2.1 _ _ rfl | exact hz0 _ _ rfl)) ⟨vi (by (have e0 : (rMany q - k).toNat = 0 := by omega); rw [rBegins, ← i5, e0, rDivs]; simp [bI, h28]), rfl⟩
    · skip
      refine x_iconst 32 C dX12_begins_31 rfl ?_
      refine x_goto 36 C dX12_begins_32 (by decide) ?_
      exact x_iret C dX12_begins_36 (by first | rfl | exact nar_b _ | exact nar_01 (by first | assumption | omega | exact hw.2.2.2.2.1 _ _ rfl | exact hz0 _ _ rfl)) ⟨vi (by (have e0 : (rMany q - k).toNat = 0 := by omega); rw [rBegins, ← i5, e0, rDivs]; simp [bI, h28]), rfl⟩
  · skip
    refine x_iload_n 16 C dX12_begins_15 rfl rfl ?_
    refine x_bipush 18 C dX12_begins_16 rfl (by decide) ?_
    refine x_idiv 19 C dX12_begins_18 rfl (by omega) ?_
    refine x_istore_n 20 C dX12_begins_19 rfl rfl rfl ?_
    refine x_iinc 23 C dX12_begins_20 rfl rfl rfl rfl ?_
    refine x_goto 7 C dX12_begins_23 (by decide) ?_
    exact ih (x / 10, k + 1) ⟨by dsimp only; omega, by dsimp only; omega, by dsimp only; omega, by dsimp only; omega, by dsimp only; rw [← i5, show (rMany q - k).toNat = (rMany q - (k + 1)).toNat + 1 by omega, rDivs]⟩ (by dsimp only; omega)
set_option maxHeartbeats 4000000 in
set_option maxRecDepth 100000 in
theorem c_X12_has {E : EV} {l : Launch} {G : GT} {R : RT} {f g : Int}  : MT E l yX12_has cX12_has 2 (some .boolean) 0 0 0 0 [.int (i32 f), .int (i32 g)] (wR G R) (pD (some (.int (i32 (bI (rHas f g))))) (wR G (R))) := by
  refine mt_of (own := RX12) (L := [some (.int (i32 f)), some (.int (i32 g))]) (by decide +kernel) rfl (Nat.le_of_ble_eq_true rfl) (List.forall_mem_cons.mpr ⟨rfl, (List.forall_mem_cons.mpr ⟨rfl, (fun _ h => absurd h List.not_mem_nil)⟩)⟩) rfl ?_
  intro p e s m args below meth c C hin
  refine x_wf (fun hw => ?_)
  have hr0 : ∀ k j, InR (R k j) := hw.2.2.1
  have hz0 : ∀ k j, mZ k = true → R k j = 0 ∨ R k j = 1 := hw.2.2.2.2.1
  refine x_iload_n 1 C dX12_has_0 rfl rfl ?_
  refine x_iload_n 2 C dX12_has_1 rfl rfl ?_
  refine x_iand 3 C dX12_has_2 rfl ?_
  refine x_if_eq 6 10 C dX12_has_3 rfl (by decide) (iand_in _ _) (fun h3 => ?_) (fun h3 => ?_)
  · skip
    refine x_iconst 11 C dX12_has_10 rfl ?_
    exact x_iret C dX12_has_11 (by first | rfl | exact nar_b _ | exact nar_01 (by first | assumption | omega | exact hw.2.2.2.2.1 _ _ rfl | exact hz0 _ _ rfl)) ⟨vi (by first | rfl | (simp [bI, rHas, h3]; done) | (simp [bI, rHas, h3] <;> omega) | (exfalso; simp_all; done)), rfl⟩
  · skip
    refine x_iconst 7 C dX12_has_6 rfl ?_
    refine x_goto 11 C dX12_has_7 (by decide) ?_
    exact x_iret C dX12_has_11 (by first | rfl | exact nar_b _ | exact nar_01 (by first | assumption | omega | exact hw.2.2.2.2.1 _ _ rfl | exact hz0 _ _ rfl)) ⟨vi (by first | rfl | (simp [bI, rHas, h3]; done) | (simp [bI, rHas, h3] <;> omega) | (exfalso; simp_all; done)), rfl⟩
set_option maxHeartbeats 4000000 in
set_option maxRecDepth 100000 in
theorem c_X12_isStrict {E : EV} {l : Launch} {G : GT} {R : RT} {f : Int}  : MT E l yX12_isStrict cX12_isStrict 1 (some .boolean) 1 21 0 0 [.int (i32 f)] (wR G R) (pD (some (.int (i32 (bI (rStrict f))))) (wR G (R))) := by
  refine mt_of (own := RX12) (L := [some (.int (i32 f))]) (by decide +kernel) rfl (Nat.le_of_ble_eq_true rfl) (List.forall_mem_cons.mpr ⟨rfl, (fun _ h => absurd h List.not_mem_nil)⟩) rfl ?_
  intro p e s m args below meth c C hin
  refine x_wf (fun hw => ?_)
  have hr0 : ∀ k j, InR (R k j) := hw.2.2.1
  have hz0 : ∀ k j, mZ k = true → R k j = 0 ∨ R k j = 1 := hw.2.2.2.2.1
  refine x_iload_n 1 C dX12_isStrict_0 rfl rfl ?_
  refine x_bipush 3 C dX12_isStrict_1 rfl (by decide) ?_
  refine x_Sr (As := [_, _]) 6 C vw_X12_263 tw_X12_has c_X12_has dX12_isStrict_3 rfl rfl rfl ⟨Nat.le_of_ble_eq_true rfl, Nat.le_of_ble_eq_true rfl⟩ (Nat.le_of_ble_eq_true rfl) ?_
  exact x_iret C dX12_isStrict_6 (by first | rfl | exact nar_b _ | exact nar_01 (by first | assumption | omega | exact hw.2.2.2.2.1 _ _ rfl | exact hz0 _ _ rfl)) ⟨vi (rfl), rfl⟩
set_option maxHeartbeats 4000000 in
set_option maxRecDepth 100000 in
theorem c_X12_isLax {E : EV} {l : Launch} {G : GT} {R : RT} {f : Int}  : MT E l yX12_isLax cX12_isLax 1 (some .boolean) 1 21 0 0 [.int (i32 f)] (wR G R) (pD (some (.int (i32 (bI (rLax f))))) (wR G (R))) := by
  refine mt_of (own := RX12) (L := [some (.int (i32 f))]) (by decide +kernel) rfl (Nat.le_of_ble_eq_true rfl) (List.forall_mem_cons.mpr ⟨rfl, (fun _ h => absurd h List.not_mem_nil)⟩) rfl ?_
  intro p e s m args below meth c C hin
  refine x_wf (fun hw => ?_)
  have hr0 : ∀ k j, InR (R k j) := hw.2.2.1
  have hz0 : ∀ k j, mZ k = true → R k j = 0 ∨ R k j = 1 := hw.2.2.2.2.1
  refine x_iload_n 1 C dX12_isLax_0 rfl rfl ?_
  refine x_iconst 2 C dX12_isLax_1 rfl ?_
  refine x_Sr (As := [_, _]) 5 C vw_X12_263 tw_X12_has c_X12_has dX12_isLax_2 rfl rfl rfl ⟨Nat.le_of_ble_eq_true rfl, Nat.le_of_ble_eq_true rfl⟩ (Nat.le_of_ble_eq_true rfl) ?_
  refine x_if_eqB 8 21 C dX12_isLax_5 rfl (by decide) (fun h5 => ?_) (fun h5 => ?_)
  · skip
    refine x_iconst 22 C dX12_isLax_21 rfl ?_
    exact x_iret C dX12_isLax_22 (by first | rfl | exact nar_b _ | exact nar_01 (by first | assumption | omega | exact hw.2.2.2.2.1 _ _ rfl | exact hz0 _ _ rfl)) ⟨vi (by first | rfl | (simp [bI, rLax, h5]; done) | (simp [bI, rLax, h5] <;> omega) | (exfalso; simp_all; done)), rfl⟩
  · skip
    refine x_iload_n 9 C dX12_isLax_8 rfl rfl ?_
    refine x_bipush 11 C dX12_isLax_9 rfl (by decide) ?_
    refine x_Sr (As := [_, _]) 14 C vw_X12_263 tw_X12_has c_X12_has dX12_isLax_11 rfl rfl rfl ⟨Nat.le_of_ble_eq_true rfl, Nat.le_of_ble_eq_true rfl⟩ (Nat.le_of_ble_eq_true rfl) ?_
    refine x_if_neB 17 21 C dX12_isLax_14 rfl (by decide) (fun h14 => ?_) (fun h14 => ?_)
    · skip
      refine x_iconst 22 C dX12_isLax_21 rfl ?_
      exact x_iret C dX12_isLax_22 (by first | rfl | exact nar_b _ | exact nar_01 (by first | assumption | omega | exact hw.2.2.2.2.1 _ _ rfl | exact hz0 _ _ rfl)) ⟨vi (by first | rfl | (simp [bI, rLax, h5, h14]; done) | (simp [bI, rLax, h5, h14] <;> omega) | (exfalso; simp_all; done)), rfl⟩
    · skip
      refine x_iconst 18 C dX12_isLax_17 rfl ?_
      refine x_goto 22 C dX12_isLax_18 (by decide) ?_
      exact x_iret C dX12_isLax_22 (by first | rfl | exact nar_b _ | exact nar_01 (by first | assumption | omega | exact hw.2.2.2.2.1 _ _ rfl | exact hz0 _ _ rfl)) ⟨vi (by first | rfl | (simp [bI, rLax, h5, h14]; done) | (simp [bI, rLax, h5, h14] <;> omega) | (exfalso; simp_all; done)), rfl⟩
set_option maxHeartbeats 4000000 in
set_option maxRecDepth 100000 in
theorem c_X12_isAmong {E : EV} {l : Launch} {G : GT} {R : RT} {o : Nat} {k al si w : Int} (hM : RM G o) (hH : RH R) (hC : RC R) (h1 : 0 ≤ k ∧ k < R 34 0) (h2 : InR al) (h3 : InR si) (h4 : InR w) : MT E l yX12_isAmong cX12_isAmong 5 (some .boolean) 1 22 0 0 [.ref o, .int (i32 k), .int (i32 al), .int (i32 si), .int (i32 w)] (wR G R) (pD (some (.int (i32 (bI (rAmong R k al si w))))) (wR G (R))) := by
  refine mt_of (own := RX12) (L := [some (.ref o), some (.int (i32 k)), some (.int (i32 al)), some (.int (i32 si)), some (.int (i32 w))]) (by decide +kernel) rfl (Nat.le_of_ble_eq_true rfl) (List.forall_mem_cons.mpr ⟨rfl, (List.forall_mem_cons.mpr ⟨rfl, (List.forall_mem_cons.mpr ⟨rfl, (List.forall_mem_cons.mpr ⟨rfl, (List.forall_mem_cons.mpr ⟨rfl, (fun _ h => absurd h List.not_mem_nil)⟩)⟩)⟩)⟩)⟩) rfl ?_
  intro p e s m args below meth c C hin
  refine x_wf (fun hw => ?_)
  have hr0 : ∀ k j, InR (R k j) := hw.2.2.1
  have hz0 : ∀ k j, mZ k = true → R k j = 0 ∨ R k j = 1 := hw.2.2.2.2.1
  have hh0 := hH.1
  have hh := hC.1
  have hd := hC.2 k.toNat (by omega)
  obtain ⟨d1, -⟩ := hd
  have ds := rSiteOf_in hH d1.1 d1.2
  refine x_iload_n 1 C dX12_isAmong_0 rfl rfl ?_
  refine x_if_ne 4 29 C dX12_isAmong_1 rfl (by decide) (by first | exact hw.2.2.1 _ _ | exact hr0 _ _ | assumption | omega | exact ⟨by omega, by omega⟩) (fun h1 => ?_) (fun h1 => ?_)
  · skip
    refine x_iconst 30 C dX12_isAmong_29 rfl ?_
    refine x_goto 34 C dX12_isAmong_30 (by decide) ?_
    exact x_iret C dX12_isAmong_34 (by first | rfl | exact nar_b _ | exact nar_01 (by first | assumption | omega | exact hw.2.2.2.2.1 _ _ rfl | exact hz0 _ _ rfl)) ⟨vi (by first | rfl | (simp [bI, rAmong, h1]; done) | (simp [bI, rAmong, h1] <;> omega) | (exfalso; simp_all; done)), rfl⟩
  · skip
    refine x_aload_n 5 C dX12_isAmong_4 rfl rfl ?_
    refine x_aload_n 6 C dX12_isAmong_5 rfl rfl ?_
    refine x_mrow 9 37 C fr_X12_98 dX12_isAmong_6 rfl rfl hM ?_
    refine x_iload_n 10 C dX12_isAmong_9 rfl rfl ?_
    refine x_mldI 11 37 C dX12_isAmong_10 rfl rfl hM (by first | exact hIx | exact ⟨by omega, Int.lt_of_lt_of_le (b := 12) (by omega) (by decide)⟩) ?_
    refine x_Vr (As := [_]) 14 C vw_X12_190 iw_X12_siteOf sw_X12_siteOf (c_X12_siteOf hM hH (by omega)) dX12_isAmong_11 rfl rfl rfl rfl rfl rfl hM.1 ⟨Nat.le_of_ble_eq_true rfl, Nat.le_of_ble_eq_true rfl⟩ (Nat.le_of_ble_eq_true rfl) ?_
    refine x_iload_n 15 C dX12_isAmong_14 rfl rfl ?_
    refine x_icmp_ne 18 33 C dX12_isAmong_15 rfl (by decide) (by first | exact hw.2.2.1 _ _ | exact hr0 _ _ | assumption | omega | exact ⟨by omega, by omega⟩) (by first | exact hw.2.2.1 _ _ | exact hr0 _ _ | assumption | omega | exact ⟨by omega, by omega⟩) (fun h15 => ?_) (fun h15 => ?_)
    · skip
      refine x_iconst 34 C dX12_isAmong_33 rfl ?_
      exact x_iret C dX12_isAmong_34 (by first | rfl | exact nar_b _ | exact nar_01 (by first | assumption | omega | exact hw.2.2.2.2.1 _ _ rfl | exact hz0 _ _ rfl)) ⟨vi (by first | rfl | (simp [bI, rAmong, h1, h15]; done) | (simp [bI, rAmong, h1, h15] <;> omega) | (exfalso; simp_all; done)), rfl⟩
    · skip
      refine x_aload_n 19 C dX12_isAmong_18 rfl rfl ?_
      refine x_mrow 22 41 C fr_X12_110 dX12_isAmong_19 rfl rfl hM ?_
      refine x_iload_n 23 C dX12_isAmong_22 rfl rfl ?_
      refine x_mldI 24 41 C dX12_isAmong_23 rfl rfl hM (by first | exact hIx | exact ⟨by omega, Int.lt_of_lt_of_le (b := 12) (by omega) (by decide)⟩) ?_
      refine x_iload 26 C dX12_isAmong_24 rfl rfl ?_
      refine x_icmp_ne 29 33 C dX12_isAmong_26 rfl (by decide) (by first | exact hw.2.2.1 _ _ | exact hr0 _ _ | assumption | omega | exact ⟨by omega, by omega⟩) (by first | exact hw.2.2.1 _ _ | exact hr0 _ _ | assumption | omega | exact ⟨by omega, by omega⟩) (fun h26 => ?_) (fun h26 => ?_)
      · skip
        refine x_iconst 34 C dX12_isAmong_33 rfl ?_
        exact x_iret C dX12_isAmong_34 (by first | rfl | exact nar_b _ | exact nar_01 (by first | assumption | omega | exact hw.2.2.2.2.1 _ _ rfl | exact hz0 _ _ rfl)) ⟨vi (by first | rfl | (simp [bI, rAmong, h1, h15, h26]; done) | (simp [bI, rAmong, h1, h15, h26] <;> omega) | (exfalso; simp_all; done)), rfl⟩
      · skip
        refine x_iconst 30 C dX12_isAmong_29 rfl ?_
        refine x_goto 34 C dX12_isAmong_30 (by decide) ?_
        exact x_iret C dX12_isAmong_34 (by first | rfl | exact nar_b _ | exact nar_01 (by first | assumption | omega | exact hw.2.2.2.2.1 _ _ rfl | exact hz0 _ _ rfl)) ⟨vi (by first | rfl | (simp [bI, rAmong, h1, h15, h26]; done) | (simp [bI, rAmong, h1, h15, h26] <;> omega) | (exfalso; simp_all; done)), rfl⟩
set_option maxHeartbeats 4000000 in
set_option maxRecDepth 100000 in
theorem c_X12_among {E : EV} {l : Launch} {G : GT} {R : RT} {o : Nat} {al si w : Int} (hM : RM G o) (hH : RH R) (hC : RC R) (h2 : InR al) (h3 : InR si) (h4 : InR w) : MT E l yX12_among cX12_among 6 (some .int) 2 46 0 0 [.ref o, .int (i32 al), .int (i32 si), .int (i32 w)] (wR G R) (pD (some (.int (i32 (rCount R al si w (R 34 0).toNat)))) (wR G (R))) := by
  refine mt_of (own := RX12) (L := [some (.ref o), some (.int (i32 al)), some (.int (i32 si)), some (.int (i32 w)), none, none]) (by decide +kernel) rfl (Nat.le_of_ble_eq_true rfl) (List.forall_mem_cons.mpr ⟨rfl, (List.forall_mem_cons.mpr ⟨rfl, (List.forall_mem_cons.mpr ⟨rfl, (List.forall_mem_cons.mpr ⟨rfl, (fun _ h => absurd h List.not_mem_nil)⟩)⟩)⟩)⟩) rfl ?_
  intro p e s m args below meth c C hin
  refine x_wf (fun hw => ?_)
  have hr0 : ∀ k j, InR (R k j) := hw.2.2.1
  have hz0 : ∀ k j, mZ k = true → R k j = 0 ∨ R k j = 1 := hw.2.2.2.2.1
  have hh := hC.1
  refine x_iconst 1 C dX12_among_0 rfl ?_
  refine x_istore 3 C dX12_among_1 rfl rfl rfl ?_
  refine x_iconst 4 C dX12_among_3 rfl ?_
  refine x_istore 6 C dX12_among_4 rfl rfl rfl ?_
  refine x_loop (α := Int × Int) (fun ⟨n, k⟩ => (R 34 0 - k).toNat) (fun ⟨n, k⟩ => 0 ≤ k ∧ k ≤ R 34 0 ∧ n = rCount R al si w k.toNat) (fun ⟨n, k⟩ => wR G R) (fun ⟨n, k⟩ => [some (.ref o), some (.int (i32 al)), some (.int (i32 si)), some (.int (i32 w)), some (.int (i32 n)), some (.int (i32 k))]) (fun _ => []) (0, 0) ⟨by omega, by omega, rfl⟩ rfl rfl rfl ?_
  intro aa hI ih
  obtain ⟨n, k⟩ := aa
  (try dsimp only at hI); (try dsimp only at ih); (try dsimp only)
  obtain ⟨i1, i2, i3⟩ := hI
  have ek : ((k.toNat : Nat) : Int) = k := by omega
  refine x_iload 8 C dX12_among_6 rfl rfl ?_
  refine x_aload_n 9 C dX12_among_8 rfl rfl ?_
  refine x_mget 12 34 C fr_X12_260 dX12_among_9 rfl rfl hM ?_
  refine x_icmp_ge 15 43 C dX12_among_12 rfl (by decide) (by first | exact hw.2.2.1 _ _ | exact hr0 _ _ | assumption | omega | exact ⟨by omega, by omega⟩) (by first | exact hw.2.2.1 _ _ | exact hr0 _ _ | assumption | omega | exact ⟨by omega, by omega⟩) (fun h12 => ?_) (fun h12 => ?_)
  · skip
    refine x_iload 45 C dX12_among_43 rfl rfl ?_
    exact x_iret C dX12_among_45 rfl ⟨vi (by rw [i3, show k = R 34 0 by omega]), rfl⟩
  · skip
    refine x_iload 17 C dX12_among_15 rfl rfl ?_
    refine x_joinv 34 (fun vJ => vJ = bI (rAmong R k al si w)) ?_ (fun hJ34 => ?_)
    · intro vJ hJ
      subst hJ
      refine x_iadd 35 C dX12_among_34 rfl ?_
      refine x_istore 37 C dX12_among_35 rfl rfl rfl ?_
      refine x_iinc 40 C dX12_among_37 rfl rfl rfl rfl ?_
      refine x_goto 6 C dX12_among_40 (by decide) ?_
      exact ih (n + bI (rAmong R k al si w), k + 1) ⟨by dsimp only; omega, by dsimp only; omega, by dsimp only; rw [show (k + 1).toNat = k.toNat + 1 by omega, rCount, ek, i3]⟩ (by dsimp only; omega)
    · skip
      refine x_aload_n 18 C dX12_among_17 rfl rfl ?_
      refine x_iload 20 C dX12_among_18 rfl rfl ?_
      refine x_iload_n 21 C dX12_among_20 rfl rfl ?_
      refine x_iload_n 22 C dX12_among_21 rfl rfl ?_
      refine x_iload_n 23 C dX12_among_22 rfl rfl ?_
      refine x_Vr (As := [_, _, _, _]) 26 C vw_X12_288 iw_X12_isAmong sw_X12_isAmong (c_X12_isAmong hM hH hC (by omega) (by assumption) (by assumption) (by assumption)) dX12_among_23 rfl rfl rfl rfl rfl rfl hM.1 ⟨Nat.le_of_ble_eq_true rfl, Nat.le_of_ble_eq_true rfl⟩ (Nat.le_of_ble_eq_true rfl) ?_
      refine x_if_eqB 29 33 C dX12_among_26 rfl (by decide) (fun h26 => ?_) (fun h26 => ?_)
      · skip
        refine x_iconst 34 C dX12_among_33 rfl ?_
        exact hJ34 _ (by first | (simp [bI, h26]; done) | (simp [bI, h26]; omega) | (simp [bI, h26] at *; omega))
      · skip
        refine x_iconst 30 C dX12_among_29 rfl ?_
        refine x_goto 34 C dX12_among_30 (by decide) ?_
        exact hJ34 _ (by first | (simp [bI, h26]; done) | (simp [bI, h26]; omega) | (simp [bI, h26] at *; omega))
set_option maxHeartbeats 4000000 in
set_option maxRecDepth 100000 in
theorem c_X12_referrer {E : EV} {l : Launch} {G : GT} {R : RT} {o : Nat} {a : Int} (hM : RM G o) (hA : RA R) (hD : RAd R) (hP : RP R) (hQ : RQ R) (h1 : 0 ≤ a ∧ a < R 7 0) : MT E l yX12_referrer cX12_referrer 4 (some .int) 2 43 0 0 [.ref o, .int (i32 a)] (wR G R) (pD (some (.int (i32 (rRef R a)))) (wR G (R))) := by
  refine mt_of (own := RX12) (L := [some (.ref o), some (.int (i32 a)), none, none]) (by decide +kernel) rfl (Nat.le_of_ble_eq_true rfl) (List.forall_mem_cons.mpr ⟨rfl, (List.forall_mem_cons.mpr ⟨rfl, (fun _ h => absurd h List.not_mem_nil)⟩)⟩) rfl ?_
  intro p e s m args below meth c C hin
  refine x_wf (fun hw => ?_)
  have hr0 : ∀ k j, InR (R k j) := hw.2.2.1
  have hz0 : ∀ k j, mZ k = true → R k j = 0 ∨ R k j = 1 := hw.2.2.2.2.1
  have hh := hA.1
  have hh2 := hA.2
  have hh3 := hP.1
  have q1 := hQ.1
  obtain ⟨p1, p2, p3⟩ := hP.2 (R 61 0).toNat (by omega)
  refine x_aload_n 1 C dX12_referrer_0 rfl rfl ?_
  refine x_mrow 4 25 C fr_X12_68 dX12_referrer_1 rfl rfl hM ?_
  refine x_aload_n 5 C dX12_referrer_4 rfl rfl ?_
  refine x_mget 8 61 C fr_X12_312 dX12_referrer_5 rfl rfl hM ?_
  refine x_mldI 9 25 C dX12_referrer_8 rfl rfl hM (by first | exact hIx | exact ⟨by omega, Int.lt_of_lt_of_le (b := 8) (by omega) (by decide)⟩) ?_
  refine x_istore_n 10 C dX12_referrer_9 rfl rfl rfl ?_
  refine x_aload_n 11 C dX12_referrer_10 rfl rfl ?_
  refine x_iload_n 12 C dX12_referrer_11 rfl rfl ?_
  refine x_iload_n 13 C dX12_referrer_12 rfl rfl ?_
  refine x_Vr (As := [_, _]) 16 C vw_X12_315 iw_X12_isSame sw_X12_isSame (c_X12_isSame hM hA hD (by omega) (by omega)) dX12_referrer_13 rfl rfl rfl rfl rfl rfl hM.1 ⟨Nat.le_of_ble_eq_true rfl, Nat.le_of_ble_eq_true rfl⟩ (Nat.le_of_ble_eq_true rfl) ?_
  refine x_istore_n 17 C dX12_referrer_16 rfl rfl rfl ?_
  refine x_aload_n 18 C dX12_referrer_17 rfl rfl ?_
  refine x_mrow 21 27 C fr_X12_74 dX12_referrer_18 rfl rfl hM ?_
  refine x_aload_n 22 C dX12_referrer_21 rfl rfl ?_
  refine x_mget 25 61 C fr_X12_312 dX12_referrer_22 rfl rfl hM ?_
  refine x_mldI 26 27 C dX12_referrer_25 rfl rfl hM (by first | exact hIx | exact ⟨by omega, Int.lt_of_lt_of_le (b := 8) (by omega) (by decide)⟩) ?_
  rcases (show R 27 (R 61 0).toNat = 0 ∨ R 27 (R 61 0).toNat = 1 ∨ R 27 (R 61 0).toNat = 2 ∨ R 27 (R 61 0).toNat = 3 ∨ R 27 (R 61 0).toNat = 4 by omega) with k0 | k0 | k0 | k0 | k0
  · skip
    refine x_tableIn 56 0 C dX12_referrer_26 (by first | exact hr0 _ _ | exact hw.2.2.1 _ _) k0 (by omega) rfl (by decide) ?_
    refine x_iconst 57 C dX12_referrer_56 rfl ?_
    exact x_iret C dX12_referrer_57 rfl ⟨vi (by first | rfl | (simp [bI, rRef, k0, rFrom]; done) | (simp [bI, rRef, k0, rFrom] <;> omega) | (exfalso; simp_all; done)), rfl⟩
  · skip
    refine x_tableIn 58 1 C dX12_referrer_26 (by first | exact hr0 _ _ | exact hw.2.2.1 _ _) k0 (by omega) rfl (by decide) ?_
    refine x_iconst 59 C dX12_referrer_58 rfl ?_
    exact x_iret C dX12_referrer_59 rfl ⟨vi (by first | rfl | (simp [bI, rRef, k0, rFrom]; done) | (simp [bI, rRef, k0, rFrom] <;> omega) | (exfalso; simp_all; done)), rfl⟩
  · skip
    refine x_tableIn 60 2 C dX12_referrer_26 (by first | exact hr0 _ _ | exact hw.2.2.1 _ _) k0 (by omega) rfl (by decide) ?_
    refine x_iload_n 61 C dX12_referrer_60 rfl rfl ?_
    refine x_if_eqB 64 68 C dX12_referrer_61 rfl (by decide) (fun h61 => ?_) (fun h61 => ?_)
    · skip
      refine x_iconst 69 C dX12_referrer_68 rfl ?_
      exact x_iret C dX12_referrer_69 rfl ⟨vi (by first | rfl | (simp [bI, rRef, k0, rFrom, h61]; done) | (simp [bI, rRef, k0, rFrom, h61] <;> omega) | (exfalso; simp_all; done)), rfl⟩
    · skip
      refine x_iconst 65 C dX12_referrer_64 rfl ?_
      refine x_goto 69 C dX12_referrer_65 (by decide) ?_
      exact x_iret C dX12_referrer_69 rfl ⟨vi (by first | rfl | (simp [bI, rRef, k0, rFrom, h61]; done) | (simp [bI, rRef, k0, rFrom, h61] <;> omega) | (exfalso; simp_all; done)), rfl⟩
  · skip
    refine x_tableIn 70 3 C dX12_referrer_26 (by first | exact hr0 _ _ | exact hw.2.2.1 _ _) k0 (by omega) rfl (by decide) ?_
    refine x_iload_n 71 C dX12_referrer_70 rfl rfl ?_
    refine x_if_eqB 74 78 C dX12_referrer_71 rfl (by decide) (fun h71 => ?_) (fun h71 => ?_)
    · skip
      refine x_aload_n 79 C dX12_referrer_78 rfl rfl ?_
      refine x_mrow 82 8 C fr_X12_20 dX12_referrer_79 rfl rfl hM ?_
      refine x_iload_n 83 C dX12_referrer_82 rfl rfl ?_
      refine x_mldI 84 8 C dX12_referrer_83 rfl rfl hM (by first | exact hIx | exact ⟨by omega, Int.lt_of_lt_of_le (b := 24) (by omega) (by decide)⟩) ?_
      refine x_iconst 85 C dX12_referrer_84 rfl ?_
      refine x_icmp_ne 88 101 C dX12_referrer_85 rfl (by decide) (by first | exact hw.2.2.1 _ _ | exact hr0 _ _ | assumption | omega | exact ⟨by omega, by omega⟩) (by first | exact hw.2.2.1 _ _ | exact hr0 _ _ | assumption | omega | exact ⟨by omega, by omega⟩) (fun h85 => ?_) (fun h85 => ?_)
      · skip
        refine x_iconst 102 C dX12_referrer_101 rfl ?_
        exact x_iret C dX12_referrer_102 rfl ⟨vi (by first | rfl | (simp [bI, rRef, k0, rFrom, h71, h85]; done) | (simp [bI, rRef, k0, rFrom, h71, h85] <;> omega) | (exfalso; simp_all; done)), rfl⟩
      · skip
        refine x_aload_n 89 C dX12_referrer_88 rfl rfl ?_
        refine x_mrow 92 8 C fr_X12_20 dX12_referrer_89 rfl rfl hM ?_
        refine x_iload_n 93 C dX12_referrer_92 rfl rfl ?_
        refine x_mldI 94 8 C dX12_referrer_93 rfl rfl hM (by first | exact hIx | exact ⟨by omega, Int.lt_of_lt_of_le (b := 24) (by omega) (by decide)⟩) ?_
        refine x_if_ne 97 101 C dX12_referrer_94 rfl (by decide) (by first | exact hw.2.2.1 _ _ | exact hr0 _ _ | assumption | omega | exact ⟨by omega, by omega⟩) (fun h94 => ?_) (fun h94 => ?_)
        · skip
          refine x_iconst 102 C dX12_referrer_101 rfl ?_
          exact x_iret C dX12_referrer_102 rfl ⟨vi (by first | rfl | (simp [bI, rRef, k0, rFrom, h71, h85, h94]; done) | (simp [bI, rRef, k0, rFrom, h71, h85, h94] <;> omega) | (exfalso; simp_all; done)), rfl⟩
        · skip
          refine x_iconst 98 C dX12_referrer_97 rfl ?_
          refine x_goto 102 C dX12_referrer_98 (by decide) ?_
          exact x_iret C dX12_referrer_102 rfl ⟨vi (by first | rfl | (simp [bI, rRef, k0, rFrom, h71, h85, h94]; done) | (simp [bI, rRef, k0, rFrom, h71, h85, h94] <;> omega) | (exfalso; simp_all; done)), rfl⟩
    · skip
      refine x_iconst 75 C dX12_referrer_74 rfl ?_
      refine x_goto 102 C dX12_referrer_75 (by decide) ?_
      exact x_iret C dX12_referrer_102 rfl ⟨vi (by first | rfl | (simp [bI, rRef, k0, rFrom, h71]; done) | (simp [bI, rRef, k0, rFrom, h71] <;> omega) | (exfalso; simp_all; done)), rfl⟩
  · skip
    refine x_tableOut 103 C dX12_referrer_26 (by first | exact hr0 _ _ | exact hw.2.2.1 _ _) (by omega) (by decide) ?_
    refine x_iconst 104 C dX12_referrer_103 rfl ?_
    exact x_iret C dX12_referrer_104 rfl ⟨vi (by first | rfl | (simp [bI, rRef, k0, rFrom]; done) | (simp [bI, rRef, k0, rFrom] <;> omega) | (exfalso; simp_all; done)), rfl⟩
set_option maxHeartbeats 4000000 in
set_option maxRecDepth 100000 in
theorem c_X12_letsIt {E : EV} {l : Launch} {G : GT} {R : RT} {o : Nat} {a : Int} (hM : RM G o) (hA : RA R) (hD : RAd R) (hP : RP R) (hQ : RQ R) (h1 : 0 ≤ a ∧ a < R 7 0) : MT E l yX12_letsIt cX12_letsIt 4 (some .boolean) 2 43 0 0 [.ref o, .int (i32 a)] (wR G R) (pD (some (.int (i32 (bI (rLets R a))))) (wR G (R))) := by
  refine mt_of (own := RX12) (L := [some (.ref o), some (.int (i32 a)), none, none]) (by decide +kernel) rfl (Nat.le_of_ble_eq_true rfl) (List.forall_mem_cons.mpr ⟨rfl, (List.forall_mem_cons.mpr ⟨rfl, (fun _ h => absurd h List.not_mem_nil)⟩)⟩) rfl ?_
  intro p e s m args below meth c C hin
  refine x_wf (fun hw => ?_)
  have hr0 : ∀ k j, InR (R k j) := hw.2.2.1
  have hz0 : ∀ k j, mZ k = true → R k j = 0 ∨ R k j = 1 := hw.2.2.2.2.1
  have hh := hA.1
  have hh2 := hA.2
  have hh3 := hP.1
  have q1 := hQ.1
  obtain ⟨p1, p2, p3⟩ := hP.2 (R 61 0).toNat (by omega)
  obtain ⟨d1, d2, d3, d4, d5, d6, d7, d8⟩ := hD a.toNat (by omega)
  refine x_aload_n 1 C dX12_letsIt_0 rfl rfl ?_
  refine x_mrow 4 14 C fr_X12_38 dX12_letsIt_1 rfl rfl hM ?_
  refine x_iload_n 5 C dX12_letsIt_4 rfl rfl ?_
  refine x_mldI 6 14 C dX12_letsIt_5 rfl rfl hM (by first | exact hIx | exact ⟨by omega, Int.lt_of_lt_of_le (b := 24) (by omega) (by decide)⟩) ?_
  refine x_istore_n 7 C dX12_letsIt_6 rfl rfl rfl ?_
  refine x_joinv 28 (fun vJ => vJ = bI (rCan R a)) ?_ (fun hJ28 => ?_)
  · intro vJ hJ
    subst hJ
    refine x_istore_n 29 C dX12_letsIt_28 rfl rfl rfl ?_
    refine x_iload_n 30 C dX12_letsIt_29 rfl rfl ?_
    refine x_bipush 32 C dX12_letsIt_30 rfl (by decide) ?_
    refine x_icmp_ne 35 50 C dX12_letsIt_32 rfl (by decide) (by first | exact hw.2.2.1 _ _ | exact hr0 _ _ | assumption | omega | exact ⟨by omega, by omega⟩) (by first | exact hw.2.2.1 _ _ | exact hr0 _ _ | assumption | omega | exact ⟨by omega, by omega⟩) (fun h32 => ?_) (fun h32 => ?_)
    · skip
      refine x_iload_n 51 C dX12_letsIt_50 rfl rfl ?_
      refine x_bipush 53 C dX12_letsIt_51 rfl (by decide) ?_
      refine x_icmp_ne 56 75 C dX12_letsIt_53 rfl (by decide) (by first | exact hw.2.2.1 _ _ | exact hr0 _ _ | assumption | omega | exact ⟨by omega, by omega⟩) (by first | exact hw.2.2.1 _ _ | exact hr0 _ _ | assumption | omega | exact ⟨by omega, by omega⟩) (fun h53 => ?_) (fun h53 => ?_)
      · skip
        refine x_iload_n 76 C dX12_letsIt_75 rfl rfl ?_
        refine x_if_lt 79 111 C dX12_letsIt_76 rfl (by decide) (by first | exact hw.2.2.1 _ _ | exact hr0 _ _ | assumption | omega | exact ⟨by omega, by omega⟩) (fun h76 => ?_) (fun h76 => ?_)
        · skip
          refine x_iconst 112 C dX12_letsIt_111 rfl ?_
          exact x_iret C dX12_letsIt_112 (by first | rfl | exact nar_b _ | exact nar_01 (by first | assumption | omega | exact hw.2.2.2.2.1 _ _ rfl | exact hz0 _ _ rfl)) ⟨vi (by first | rfl | (simp [bI, rLets, rFrom, h32, h53, h76]; done) | (simp [bI, rLets, rFrom, h32, h53, h76] <;> omega) | (exfalso; simp_all; done)), rfl⟩
        · skip
          refine x_aload_n 80 C dX12_letsIt_79 rfl rfl ?_
          refine x_iload_n 81 C dX12_letsIt_80 rfl rfl ?_
          refine x_aload_n 82 C dX12_letsIt_81 rfl rfl ?_
          refine x_mrow 85 25 C fr_X12_68 dX12_letsIt_82 rfl rfl hM ?_
          refine x_aload_n 86 C dX12_letsIt_85 rfl rfl ?_
          refine x_mget 89 61 C fr_X12_312 dX12_letsIt_86 rfl rfl hM ?_
          refine x_mldI 90 25 C dX12_letsIt_89 rfl rfl hM (by first | exact hIx | exact ⟨by omega, Int.lt_of_lt_of_le (b := 8) (by omega) (by decide)⟩) ?_
          refine x_Vr (As := [_, _]) 93 C vw_X12_315 iw_X12_isSame sw_X12_isSame (c_X12_isSame hM hA hD (by omega) (by omega)) dX12_letsIt_90 rfl rfl rfl rfl rfl rfl hM.1 ⟨Nat.le_of_ble_eq_true rfl, Nat.le_of_ble_eq_true rfl⟩ (Nat.le_of_ble_eq_true rfl) ?_
          refine x_if_eqB 96 111 C dX12_letsIt_93 rfl (by decide) (fun h93 => ?_) (fun h93 => ?_)
          · skip
            refine x_iconst 112 C dX12_letsIt_111 rfl ?_
            exact x_iret C dX12_letsIt_112 (by first | rfl | exact nar_b _ | exact nar_01 (by first | assumption | omega | exact hw.2.2.2.2.1 _ _ rfl | exact hz0 _ _ rfl)) ⟨vi (by first | rfl | (simp [bI, rLets, rFrom, h32, h53, h76, h93]; done) | (simp [bI, rLets, rFrom, h32, h53, h76, h93] <;> omega) | (exfalso; simp_all; done)), rfl⟩
          · skip
            refine x_aload_n 97 C dX12_letsIt_96 rfl rfl ?_
            refine x_mget 100 67 C fr_X12_321 dX12_letsIt_97 rfl rfl hM ?_
            refine x_if_ne 103 111 C dX12_letsIt_100 rfl (by decide) (by first | exact hw.2.2.1 _ _ | exact hr0 _ _ | assumption | omega | exact ⟨by omega, by omega⟩) (fun h100 => ?_) (fun h100 => ?_)
            · skip
              refine x_iconst 112 C dX12_letsIt_111 rfl ?_
              exact x_iret C dX12_letsIt_112 (by first | rfl | exact nar_b _ | exact nar_01 (by first | assumption | omega | exact hw.2.2.2.2.1 _ _ rfl | exact hz0 _ _ rfl)) ⟨vi (by first | rfl | (simp [bI, rLets, rFrom, h32, h53, h76, h93, h100]; done) | (simp [bI, rLets, rFrom, h32, h53, h76, h93, h100] <;> omega) | (exfalso; simp_all; done)), rfl⟩
            · skip
              refine x_iload_n 104 C dX12_letsIt_103 rfl rfl ?_
              refine x_if_eqB 107 111 C dX12_letsIt_104 rfl (by decide) (fun h104 => ?_) (fun h104 => ?_)
              · skip
                refine x_iconst 112 C dX12_letsIt_111 rfl ?_
                exact x_iret C dX12_letsIt_112 (by first | rfl | exact nar_b _ | exact nar_01 (by first | assumption | omega | exact hw.2.2.2.2.1 _ _ rfl | exact hz0 _ _ rfl)) ⟨vi (by first | rfl | (simp [bI, rLets, rFrom, h32, h53, h76, h93, h100, h104]; done) | (simp [bI, rLets, rFrom, h32, h53, h76, h93, h100, h104] <;> omega) | (exfalso; simp_all; done)), rfl⟩
              · skip
                refine x_iconst 108 C dX12_letsIt_107 rfl ?_
                refine x_goto 112 C dX12_letsIt_108 (by decide) ?_
                exact x_iret C dX12_letsIt_112 (by first | rfl | exact nar_b _ | exact nar_01 (by first | assumption | omega | exact hw.2.2.2.2.1 _ _ rfl | exact hz0 _ _ rfl)) ⟨vi (by first | rfl | (simp [bI, rLets, rFrom, h32, h53, h76, h93, h100, h104]; done) | (simp [bI, rLets, rFrom, h32, h53, h76, h93, h100, h104] <;> omega) | (exfalso; simp_all; done)), rfl⟩
      · skip
        refine x_aload_n 57 C dX12_letsIt_56 rfl rfl ?_
        refine x_mget 60 67 C fr_X12_321 dX12_letsIt_57 rfl rfl hM ?_
        refine x_if_eq 63 71 C dX12_letsIt_60 rfl (by decide) (by first | exact hw.2.2.1 _ _ | exact hr0 _ _ | assumption | omega | exact ⟨by omega, by omega⟩) (fun h60 => ?_) (fun h60 => ?_)
        · skip
          refine x_iconst 72 C dX12_letsIt_71 rfl ?_
          refine x_goto 112 C dX12_letsIt_72 (by decide) ?_
          exact x_iret C dX12_letsIt_112 (by first | rfl | exact nar_b _ | exact nar_01 (by first | assumption | omega | exact hw.2.2.2.2.1 _ _ rfl | exact hz0 _ _ rfl)) ⟨vi (by first | rfl | (simp [bI, rLets, rFrom, h32, h53, h60]; done) | (simp [bI, rLets, rFrom, h32, h53, h60] <;> omega) | (exfalso; simp_all; done)), rfl⟩
        · skip
          refine x_iload_n 64 C dX12_letsIt_63 rfl rfl ?_
          refine x_if_eqB 67 71 C dX12_letsIt_64 rfl (by decide) (fun h64 => ?_) (fun h64 => ?_)
          · skip
            refine x_iconst 72 C dX12_letsIt_71 rfl ?_
            refine x_goto 112 C dX12_letsIt_72 (by decide) ?_
            exact x_iret C dX12_letsIt_112 (by first | rfl | exact nar_b _ | exact nar_01 (by first | assumption | omega | exact hw.2.2.2.2.1 _ _ rfl | exact hz0 _ _ rfl)) ⟨vi (by first | rfl | (simp [bI, rLets, rFrom, h32, h53, h60, h64]; done) | (simp [bI, rLets, rFrom, h32, h53, h60, h64] <;> omega) | (exfalso; simp_all; done)), rfl⟩
          · skip
            refine x_iconst 68 C dX12_letsIt_67 rfl ?_
            refine x_goto 112 C dX12_letsIt_68 (by decide) ?_
            exact x_iret C dX12_letsIt_112 (by first | rfl | exact nar_b _ | exact nar_01 (by first | assumption | omega | exact hw.2.2.2.2.1 _ _ rfl | exact hz0 _ _ rfl)) ⟨vi (by first | rfl | (simp [bI, rLets, rFrom, h32, h53, h60, h64]; done) | (simp [bI, rLets, rFrom, h32, h53, h60, h64] <;> omega) | (exfalso; simp_all; done)), rfl⟩
    · skip
      refine x_aload_n 36 C dX12_letsIt_35 rfl rfl ?_
      refine x_mget 39 63 C fr_X12_318 dX12_letsIt_36 rfl rfl hM ?_
      refine x_if_ne 42 46 C dX12_letsIt_39 rfl (by decide) (by first | exact hw.2.2.1 _ _ | exact hr0 _ _ | assumption | omega | exact ⟨by omega, by omega⟩) (fun h39 => ?_) (fun h39 => ?_)
      · skip
        refine x_iconst 47 C dX12_letsIt_46 rfl ?_
        refine x_goto 112 C dX12_letsIt_47 (by decide) ?_
        exact x_iret C dX12_letsIt_112 (by first | rfl | exact nar_b _ | exact nar_01 (by first | assumption | omega | exact hw.2.2.2.2.1 _ _ rfl | exact hz0 _ _ rfl)) ⟨vi (by first | rfl | (simp [bI, rLets, rFrom, h32, h39]; done) | (simp [bI, rLets, rFrom, h32, h39] <;> omega) | (exfalso; simp_all; done)), rfl⟩
      · skip
        refine x_iconst 43 C dX12_letsIt_42 rfl ?_
        refine x_goto 112 C dX12_letsIt_43 (by decide) ?_
        exact x_iret C dX12_letsIt_112 (by first | rfl | exact nar_b _ | exact nar_01 (by first | assumption | omega | exact hw.2.2.2.2.1 _ _ rfl | exact hz0 _ _ rfl)) ⟨vi (by first | rfl | (simp [bI, rLets, rFrom, h32, h39]; done) | (simp [bI, rLets, rFrom, h32, h39] <;> omega) | (exfalso; simp_all; done)), rfl⟩
  · skip
    refine x_aload_n 8 C dX12_letsIt_7 rfl rfl ?_
    refine x_mrow 11 15 C fr_X12_41 dX12_letsIt_8 rfl rfl hM ?_
    refine x_iload_n 12 C dX12_letsIt_11 rfl rfl ?_
    refine x_mldZ 13 15 C dX12_letsIt_12 rfl rfl hM (by first | exact hIx | exact ⟨by omega, Int.lt_of_lt_of_le (b := 24) (by omega) (by decide)⟩) ?_
    refine x_if_ne 16 23 C dX12_letsIt_13 rfl (by decide) (by first | exact hw.2.2.1 _ _ | exact hr0 _ _ | assumption | omega | exact ⟨by omega, by omega⟩) (fun h13 => ?_) (fun h13 => ?_)
    · skip
      refine x_iconst 24 C dX12_letsIt_23 rfl ?_
      refine x_goto 28 C dX12_letsIt_24 (by decide) ?_
      exact hJ28 _ (by first | (simp [bI, rCan, h13]; done) | (simp [bI, rCan, h13]; omega) | (simp [bI, rCan, h13] at *; omega))
    · skip
      refine x_aload_n 17 C dX12_letsIt_16 rfl rfl ?_
      refine x_mget 20 63 C fr_X12_318 dX12_letsIt_17 rfl rfl hM ?_
      refine x_if_ne 23 27 C dX12_letsIt_20 rfl (by decide) (by first | exact hw.2.2.1 _ _ | exact hr0 _ _ | assumption | omega | exact ⟨by omega, by omega⟩) (fun h20 => ?_) (fun h20 => ?_)
      · skip
        refine x_iconst 28 C dX12_letsIt_27 rfl ?_
        exact hJ28 _ (by first | (simp [bI, rCan, h13, h20]; done) | (simp [bI, rCan, h13, h20]; omega) | (simp [bI, rCan, h13, h20] at *; omega))
      · skip
        refine x_iconst 24 C dX12_letsIt_23 rfl ?_
        refine x_goto 28 C dX12_letsIt_24 (by decide) ?_
        exact hJ28 _ (by first | (simp [bI, rCan, h13, h20]; done) | (simp [bI, rCan, h13, h20]; omega) | (simp [bI, rCan, h13, h20] at *; omega))
set_option maxHeartbeats 4000000 in
set_option maxRecDepth 100000 in
theorem c_X12_originOf {E : EV} {l : Launch} {G : GT} {R : RT} {o : Nat} {a : Int} (hM : RM G o) (hA : RA R) (h1 : 0 ≤ a ∧ a < R 7 0) : MT E l yX12_originOf cX12_originOf 2 (some .int) 1 21 0 0 [.ref o, .int (i32 a)] (wR G R) (pD (some (.int (i32 (rOrg R a)))) (wR G (R))) := by
  refine mt_of (own := RX12) (L := [some (.ref o), some (.int (i32 a))]) (by decide +kernel) rfl (Nat.le_of_ble_eq_true rfl) (List.forall_mem_cons.mpr ⟨rfl, (List.forall_mem_cons.mpr ⟨rfl, (fun _ h => absurd h List.not_mem_nil)⟩)⟩) rfl ?_
  intro p e s m args below meth c C hin
  refine x_wf (fun hw => ?_)
  have hr0 : ∀ k j, InR (R k j) := hw.2.2.1
  have hz0 : ∀ k j, mZ k = true → R k j = 0 ∨ R k j = 1 := hw.2.2.2.2.1
  have hh := hA.1
  have hh2 := hA.2
  refine x_sipush 3 C dX12_originOf_0 rfl (by decide) ?_
  refine x_bipush 5 C dX12_originOf_3 rfl (by decide) ?_
  refine x_aload_n 6 C dX12_originOf_5 rfl rfl ?_
  refine x_mrow 9 8 C fr_X12_20 dX12_originOf_6 rfl rfl hM ?_
  refine x_iload_n 10 C dX12_originOf_9 rfl rfl ?_
  refine x_mldI 11 8 C dX12_originOf_10 rfl rfl hM (by first | exact hIx | exact ⟨by omega, Int.lt_of_lt_of_le (b := 24) (by omega) (by decide)⟩) ?_
  refine x_imul 12 C dX12_originOf_11 rfl ?_
  refine x_aload_n 13 C dX12_originOf_12 rfl rfl ?_
  refine x_mrow 16 9 C fr_X12_23 dX12_originOf_13 rfl rfl hM ?_
  refine x_iload_n 17 C dX12_originOf_16 rfl rfl ?_
  refine x_mldI 18 9 C dX12_originOf_17 rfl rfl hM (by first | exact hIx | exact ⟨by omega, Int.lt_of_lt_of_le (b := 24) (by omega) (by decide)⟩) ?_
  refine x_iadd 19 C dX12_originOf_18 rfl ?_
  refine x_imul 20 C dX12_originOf_19 rfl ?_
  refine x_aload_n 21 C dX12_originOf_20 rfl rfl ?_
  refine x_iload_n 22 C dX12_originOf_21 rfl rfl ?_
  refine x_Vr (As := [_]) 25 C vw_X12_235 iw_X12_gate sw_X12_gate (c_X12_gate hM hA (by omega)) dX12_originOf_22 rfl rfl rfl rfl rfl rfl hM.1 ⟨Nat.le_of_ble_eq_true rfl, Nat.le_of_ble_eq_true rfl⟩ (Nat.le_of_ble_eq_true rfl) ?_
  refine x_iadd 26 C dX12_originOf_25 rfl ?_
  exact x_iret C dX12_originOf_26 rfl ⟨vi (rfl), rfl⟩
set_option maxHeartbeats 4000000 in
set_option maxRecDepth 100000 in
theorem c_X12_mixes {E : EV} {l : Launch} {G : GT} {R : RT} {o : Nat} {a : Int} (hM : RM G o) (hA : RA R) (hD : RAd R) (hP : RP R) (hQ : RQ R) (h1 : 0 ≤ a ∧ a < R 7 0) : MT E l yX12_mixes cX12_mixes 2 (some .int) 1 26 0 0 [.ref o, .int (i32 a)] (wR G R) (pD (some (.int (i32 (rMix R a)))) (wR G (R))) := by
  refine mt_of (own := RX12) (L := [some (.ref o), some (.int (i32 a))]) (by decide +kernel) rfl (Nat.le_of_ble_eq_true rfl) (List.forall_mem_cons.mpr ⟨rfl, (List.forall_mem_cons.mpr ⟨rfl, (fun _ h => absurd h List.not_mem_nil)⟩)⟩) rfl ?_
  intro p e s m args below meth c C hin
  refine x_wf (fun hw => ?_)
  have hr0 : ∀ k j, InR (R k j) := hw.2.2.1
  have hz0 : ∀ k j, mZ k = true → R k j = 0 ∨ R k j = 1 := hw.2.2.2.2.1
  have hh := hA.1
  have hh2 := hA.2
  have hh3 := hP.1
  have q1 := hQ.1
  have q2 := hQ.2.1
  obtain ⟨p1, p2, p3⟩ := hP.2 (R 61 0).toNat (by omega)
  obtain ⟨d1, d2, d3, d4, d5, d6, d7, d8⟩ := hD a.toNat (by omega)
  refine x_aload_n 1 C dX12_mixes_0 rfl rfl ?_
  refine x_mrow 4 8 C fr_X12_20 dX12_mixes_1 rfl rfl hM ?_
  refine x_aload_n 5 C dX12_mixes_4 rfl rfl ?_
  refine x_mrow 8 25 C fr_X12_68 dX12_mixes_5 rfl rfl hM ?_
  refine x_aload_n 9 C dX12_mixes_8 rfl rfl ?_
  refine x_mget 12 61 C fr_X12_312 dX12_mixes_9 rfl rfl hM ?_
  refine x_mldI 13 25 C dX12_mixes_12 rfl rfl hM (by first | exact hIx | exact ⟨by omega, Int.lt_of_lt_of_le (b := 8) (by omega) (by decide)⟩) ?_
  refine x_mldI 14 8 C dX12_mixes_13 rfl rfl hM (by first | exact hIx | exact ⟨by omega, Int.lt_of_lt_of_le (b := 24) (by omega) (by decide)⟩) ?_
  refine x_if_eq 17 35 C dX12_mixes_14 rfl (by decide) (by first | exact hw.2.2.1 _ _ | exact hr0 _ _ | assumption | omega | exact ⟨by omega, by omega⟩) (fun h14 => ?_) (fun h14 => ?_)
  · skip
    refine x_iload_n 36 C dX12_mixes_35 rfl rfl ?_
    exact x_iret C dX12_mixes_36 rfl ⟨vi (by first | rfl | (simp [bI, rMix, rFrom, h14]; done) | (simp [bI, rMix, rFrom, h14] <;> omega) | (exfalso; simp_all; done)), rfl⟩
  · skip
    refine x_aload_n 18 C dX12_mixes_17 rfl rfl ?_
    refine x_mrow 21 8 C fr_X12_20 dX12_mixes_18 rfl rfl hM ?_
    refine x_iload_n 22 C dX12_mixes_21 rfl rfl ?_
    refine x_mldI 23 8 C dX12_mixes_22 rfl rfl hM (by first | exact hIx | exact ⟨by omega, Int.lt_of_lt_of_le (b := 24) (by omega) (by decide)⟩) ?_
    refine x_iconst 24 C dX12_mixes_23 rfl ?_
    refine x_icmp_eq 27 35 C dX12_mixes_24 rfl (by decide) (by first | exact hw.2.2.1 _ _ | exact hr0 _ _ | assumption | omega | exact ⟨by omega, by omega⟩) (by first | exact hw.2.2.1 _ _ | exact hr0 _ _ | assumption | omega | exact ⟨by omega, by omega⟩) (fun h24 => ?_) (fun h24 => ?_)
    · skip
      refine x_iload_n 36 C dX12_mixes_35 rfl rfl ?_
      exact x_iret C dX12_mixes_36 rfl ⟨vi (by first | rfl | (simp [bI, rMix, rFrom, h14, h24]; done) | (simp [bI, rMix, rFrom, h14, h24] <;> omega) | (exfalso; simp_all; done)), rfl⟩
    · skip
      refine x_aload_n 28 C dX12_mixes_27 rfl rfl ?_
      refine x_mget 31 62 C fr_X12_276 dX12_mixes_28 rfl rfl hM ?_
      refine x_iconst 32 C dX12_mixes_31 rfl ?_
      refine x_icmp_ne 35 37 C dX12_mixes_32 rfl (by decide) (by first | exact hw.2.2.1 _ _ | exact hr0 _ _ | assumption | omega | exact ⟨by omega, by omega⟩) (by first | exact hw.2.2.1 _ _ | exact hr0 _ _ | assumption | omega | exact ⟨by omega, by omega⟩) (fun h32 => ?_) (fun h32 => ?_)
      · skip
        refine x_aload_n 38 C dX12_mixes_37 rfl rfl ?_
        refine x_mget 41 62 C fr_X12_276 dX12_mixes_38 rfl rfl hM ?_
        refine x_if_ne 44 70 C dX12_mixes_41 rfl (by decide) (by first | exact hw.2.2.1 _ _ | exact hr0 _ _ | assumption | omega | exact ⟨by omega, by omega⟩) (fun h41 => ?_) (fun h41 => ?_)
        · skip
          refine x_iconst 71 C dX12_mixes_70 rfl ?_
          exact x_iret C dX12_mixes_71 rfl ⟨vi (by first | rfl | (simp [bI, rMix, rFrom, h14, h24, h32, h41]; done) | (simp [bI, rMix, rFrom, h14, h24, h32, h41] <;> omega) | (exfalso; simp_all; done)), rfl⟩
        · skip
          refine x_aload_n 45 C dX12_mixes_44 rfl rfl ?_
          refine x_iconst 46 C dX12_mixes_45 rfl ?_
          refine x_aload_n 47 C dX12_mixes_46 rfl rfl ?_
          refine x_mrow 50 9 C fr_X12_23 dX12_mixes_47 rfl rfl hM ?_
          refine x_iload_n 51 C dX12_mixes_50 rfl rfl ?_
          refine x_mldI 52 9 C dX12_mixes_51 rfl rfl hM (by first | exact hIx | exact ⟨by omega, Int.lt_of_lt_of_le (b := 24) (by omega) (by decide)⟩) ?_
          refine x_aload_n 53 C dX12_mixes_52 rfl rfl ?_
          refine x_mrow 56 10 C fr_X12_26 dX12_mixes_53 rfl rfl hM ?_
          refine x_iload_n 57 C dX12_mixes_56 rfl rfl ?_
          refine x_mldI 58 10 C dX12_mixes_57 rfl rfl hM (by first | exact hIx | exact ⟨by omega, Int.lt_of_lt_of_le (b := 24) (by omega) (by decide)⟩) ?_
          refine x_aload_n 59 C dX12_mixes_58 rfl rfl ?_
          refine x_mrow 62 11 C fr_X12_29 dX12_mixes_59 rfl rfl hM ?_
          refine x_iload_n 63 C dX12_mixes_62 rfl rfl ?_
          refine x_mldI 64 11 C dX12_mixes_63 rfl rfl hM (by first | exact hIx | exact ⟨by omega, Int.lt_of_lt_of_le (b := 24) (by omega) (by decide)⟩) ?_
          refine x_Vr (As := [_, _, _, _]) 67 C vw_X12_193 iw_X12_find sw_X12_find (c_X12_find hM ⟨by omega, by omega⟩ (hr0 _ _) (hr0 _ _) (hr0 _ _) hA) dX12_mixes_64 rfl rfl rfl rfl rfl rfl hM.1 ⟨Nat.le_of_ble_eq_true rfl, Nat.le_of_ble_eq_true rfl⟩ (Nat.le_of_ble_eq_true rfl) ?_
          refine x_goto 71 C dX12_mixes_67 (by decide) ?_
          exact x_iret C dX12_mixes_71 rfl ⟨vi (by first | rfl | (simp [bI, rMix, rFrom, h14, h24, h32, h41]; done) | (simp [bI, rMix, rFrom, h14, h24, h32, h41] <;> omega) | (exfalso; simp_all; done)), rfl⟩
      · skip
        refine x_iload_n 36 C dX12_mixes_35 rfl rfl ?_
        exact x_iret C dX12_mixes_36 rfl ⟨vi (by first | rfl | (simp [bI, rMix, rFrom, h14, h24, h32]; done) | (simp [bI, rMix, rFrom, h14, h24, h32] <;> omega) | (exfalso; simp_all; done)), rfl⟩
