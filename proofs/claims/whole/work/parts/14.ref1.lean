/-! rows laid by program (wip/tools/gen.py) -/
set_option maxHeartbeats 4000000 in
set_option maxRecDepth 100000 in
theorem c_X12_thrown {E : EV} {l : Launch} {G : GT} {R : RT} {o : Nat} (hM : RM G o)  : MT E l yX12_thrown cX12_thrown 1 (some .int) 0 0 0 0 [.ref o] (wR G R) (pD (some (.int (i32 (R 71 0)))) (wR G (R))) := by
  refine mt_of (own := RX12) (L := [some (.ref o)]) (by decide +kernel) rfl (Nat.le_of_ble_eq_true rfl) (List.forall_mem_cons.mpr ⟨rfl, (fun _ h => absurd h List.not_mem_nil)⟩) rfl ?_
  intro p e s m args below meth c C hin
  refine x_wf (fun hw => ?_)
  have hr0 : ∀ k j, InR (R k j) := hw.2.2.1
  have hz0 : ∀ k j, mZ k = true → R k j = 0 ∨ R k j = 1 := hw.2.2.2.2.1
  refine x_aload_n 1 C dX12_thrown_0 rfl rfl ?_
  refine x_mget 4 71 C fr_X12_161 dX12_thrown_1 rfl rfl hM ?_
  exact x_iret C dX12_thrown_4 rfl ⟨vi (rfl), rfl⟩
set_option maxHeartbeats 4000000 in
set_option maxRecDepth 100000 in
theorem c_X12_fails {E : EV} {l : Launch} {G : GT} {R : RT} {o : Nat} {w : Int} (hM : RM G o) (hI : InR w) : MT E l yX12_fails cX12_fails 2 (some .boolean) 0 0 0 0 [.ref o, .int (i32 w)] (wR G R) (pD (some (.int (i32 (bI (decide (0 < w)))))) (wR G (u2 R 71 0 w))) := by
  refine mt_of (own := RX12) (L := [some (.ref o), some (.int (i32 w))]) (by decide +kernel) rfl (Nat.le_of_ble_eq_true rfl) (List.forall_mem_cons.mpr ⟨rfl, (List.forall_mem_cons.mpr ⟨rfl, (fun _ h => absurd h List.not_mem_nil)⟩)⟩) rfl ?_
  intro p e s m args below meth c C hin
  refine x_wf (fun hw => ?_)
  have hr0 : ∀ k j, InR (R k j) := hw.2.2.1
  have hz0 : ∀ k j, mZ k = true → R k j = 0 ∨ R k j = 1 := hw.2.2.2.2.1
  refine x_aload_n 1 C dX12_fails_0 rfl rfl ?_
  refine x_iload_n 2 C dX12_fails_1 rfl rfl ?_
  refine x_mput 5 71 C fw_X12_161 dX12_fails_2 rfl rfl rfl hM (by first | exact hw.2.2.1 _ _ | exact hr0 _ _ | assumption | omega | exact ⟨by omega, by omega⟩) (fun z => absurd z (by decide)) ?_
  refine x_wf (fun hw => ?_)
  refine x_iload_n 6 C dX12_fails_5 rfl rfl ?_
  refine x_if_le 9 13 C dX12_fails_6 rfl (by decide) (by first | exact hw.2.2.1 _ _ | exact hr0 _ _ | assumption | omega | exact ⟨by omega, by omega⟩) (fun h6 => ?_) (fun h6 => ?_)
  · skip
    refine x_iconst 14 C dX12_fails_13 rfl ?_
    exact x_iret C dX12_fails_14 (by first | rfl | exact nar_b _ | exact nar_01 (by first | assumption | omega | exact hw.2.2.2.2.1 _ _ rfl | exact hz0 _ _ rfl)) ⟨vi (by first | exact bI_t (decide_eq_true h6) | exact bI_f (decide_eq_false (by omega))), rfl⟩
  · skip
    refine x_iconst 10 C dX12_fails_9 rfl ?_
    refine x_goto 14 C dX12_fails_10 (by decide) ?_
    exact x_iret C dX12_fails_14 (by first | rfl | exact nar_b _ | exact nar_01 (by first | assumption | omega | exact hw.2.2.2.2.1 _ _ rfl | exact hz0 _ _ rfl)) ⟨vi (by first | exact bI_t (decide_eq_true h6) | exact bI_f (decide_eq_false (by omega))), rfl⟩
set_option maxHeartbeats 4000000 in
set_option maxRecDepth 100000 in
theorem c_X12_lies {E : EV} {l : Launch} {G : GT} {R : RT} {v a b : Int} (h1 : InR v) (h2 : InR a) (h3 : InR b) : MT E l yX12_lies cX12_lies 3 (some .boolean) 0 0 0 0 [.int (i32 v), .int (i32 a), .int (i32 b)] (wR G R) (pD (some (.int (i32 (bI (rLies v a b))))) (wR G (R))) := by
  refine mt_of (own := RX12) (L := [some (.int (i32 v)), some (.int (i32 a)), some (.int (i32 b))]) (by decide +kernel) rfl (Nat.le_of_ble_eq_true rfl) (List.forall_mem_cons.mpr ⟨rfl, (List.forall_mem_cons.mpr ⟨rfl, (List.forall_mem_cons.mpr ⟨rfl, (fun _ h => absurd h List.not_mem_nil)⟩)⟩)⟩) rfl ?_
  intro p e s m args below meth c C hin
  refine x_wf (fun hw => ?_)
  have hr0 : ∀ k j, InR (R k j) := hw.2.2.1
  have hz0 : ∀ k j, mZ k = true → R k j = 0 ∨ R k j = 1 := hw.2.2.2.2.1
  refine x_iload_n 1 C dX12_lies_0 rfl rfl ?_
  refine x_iload_n 2 C dX12_lies_1 rfl rfl ?_
  refine x_icmp_lt 5 14 C dX12_lies_2 rfl (by decide) (by first | exact hw.2.2.1 _ _ | exact hr0 _ _ | assumption | omega | exact ⟨by omega, by omega⟩) (by first | exact hw.2.2.1 _ _ | exact hr0 _ _ | assumption | omega | exact ⟨by omega, by omega⟩) (fun h2 => ?_) (fun h2 => ?_)
  · skip
    refine x_iconst 15 C dX12_lies_14 rfl ?_
    exact x_iret C dX12_lies_15 (by first | rfl | exact nar_b _ | exact nar_01 (by first | assumption | omega | exact hw.2.2.2.2.1 _ _ rfl | exact hz0 _ _ rfl)) ⟨vi (by first | exact bI_t (decide_eq_true ⟨by assumption, by assumption⟩) | exact bI_f (decide_eq_false (by omega))), rfl⟩
  · skip
    refine x_iload_n 6 C dX12_lies_5 rfl rfl ?_
    refine x_iload_n 7 C dX12_lies_6 rfl rfl ?_
    refine x_icmp_gt 10 14 C dX12_lies_7 rfl (by decide) (by first | exact hw.2.2.1 _ _ | exact hr0 _ _ | assumption | omega | exact ⟨by omega, by omega⟩) (by first | exact hw.2.2.1 _ _ | exact hr0 _ _ | assumption | omega | exact ⟨by omega, by omega⟩) (fun h7 => ?_) (fun h7 => ?_)
    · skip
      refine x_iconst 15 C dX12_lies_14 rfl ?_
      exact x_iret C dX12_lies_15 (by first | rfl | exact nar_b _ | exact nar_01 (by first | assumption | omega | exact hw.2.2.2.2.1 _ _ rfl | exact hz0 _ _ rfl)) ⟨vi (by first | exact bI_t (decide_eq_true ⟨by assumption, by assumption⟩) | exact bI_f (decide_eq_false (by omega))), rfl⟩
    · skip
      refine x_iconst 11 C dX12_lies_10 rfl ?_
      refine x_goto 15 C dX12_lies_11 (by decide) ?_
      exact x_iret C dX12_lies_15 (by first | rfl | exact nar_b _ | exact nar_01 (by first | assumption | omega | exact hw.2.2.2.2.1 _ _ rfl | exact hz0 _ _ rfl)) ⟨vi (by first | exact bI_t (decide_eq_true ⟨by assumption, by assumption⟩) | exact bI_f (decide_eq_false (by omega))), rfl⟩
set_option maxHeartbeats 4000000 in
set_option maxRecDepth 100000 in
theorem c_X12_isHost {E : EV} {l : Launch} {G : GT} {R : RT} {o : Nat} {x : Int} (hM : RM G o) (h1 : InR x) (hH : RH R) : MT E l yX12_isHost cX12_isHost 2 (some .boolean) 1 22 0 0 [.ref o, .int (i32 x)] (wR G R) (pD (some (.int (i32 (bI (rIsHost R x))))) (wR G (R))) := by
  refine mt_of (own := RX12) (L := [some (.ref o), some (.int (i32 x))]) (by decide +kernel) rfl (Nat.le_of_ble_eq_true rfl) (List.forall_mem_cons.mpr ⟨rfl, (List.forall_mem_cons.mpr ⟨rfl, (fun _ h => absurd h List.not_mem_nil)⟩)⟩) rfl ?_
  intro p e s m args below meth c C hin
  refine x_wf (fun hw => ?_)
  have hr0 : ∀ k j, InR (R k j) := hw.2.2.1
  have hz0 : ∀ k j, mZ k = true → R k j = 0 ∨ R k j = 1 := hw.2.2.2.2.1
  have hh := hH.1
  refine x_iload_n 1 C dX12_isHost_0 rfl rfl ?_
  refine x_iconst 2 C dX12_isHost_1 rfl ?_
  refine x_aload_n 3 C dX12_isHost_2 rfl rfl ?_
  refine x_mget 6 3 C fr_X12_165 dX12_isHost_3 rfl rfl hM ?_
  refine x_iconst 7 C dX12_isHost_6 rfl ?_
  refine x_isub 8 C dX12_isHost_7 rfl ?_
  refine x_Sr (As := [_, _, _]) 11 C vw_X12_168 tw_X12_lies (c_X12_lies (by first | assumption | omega) (by omega) (by omega)) dX12_isHost_8 rfl rfl rfl ⟨Nat.le_of_ble_eq_true rfl, Nat.le_of_ble_eq_true rfl⟩ (Nat.le_of_ble_eq_true rfl) ?_
  exact x_iret C dX12_isHost_11 (by first | rfl | exact nar_b _ | exact nar_01 (by first | assumption | omega | exact hw.2.2.2.2.1 _ _ rfl | exact hz0 _ _ rfl)) ⟨vi (rfl), rfl⟩
set_option maxHeartbeats 4000000 in
set_option maxRecDepth 100000 in
theorem c_X12_siteOf {E : EV} {l : Launch} {G : GT} {R : RT} {o : Nat} {its : Int} (hM : RM G o) (hH : RH R) (h1 : 0 ≤ its ∧ its < R 3 0) : MT E l yX12_siteOf cX12_siteOf 3 (some .int) 0 0 0 0 [.ref o, .int (i32 its)] (wR G R) (pD (some (.int (i32 (rSiteOf R its)))) (wR G (R))) := by
  refine mt_of (own := RX12) (L := [some (.ref o), some (.int (i32 its)), none]) (by decide +kernel) rfl (Nat.le_of_ble_eq_true rfl) (List.forall_mem_cons.mpr ⟨rfl, (List.forall_mem_cons.mpr ⟨rfl, (fun _ h => absurd h List.not_mem_nil)⟩)⟩) rfl ?_
  intro p e s m args below meth c C hin
  refine x_wf (fun hw => ?_)
  have hr0 : ∀ k j, InR (R k j) := hw.2.2.1
  have hz0 : ∀ k j, mZ k = true → R k j = 0 ∨ R k j = 1 := hw.2.2.2.2.1
  have hh := hH.1
  refine x_aload_n 1 C dX12_siteOf_0 rfl rfl ?_
  refine x_mrow 4 6 C fr_X12_16 dX12_siteOf_1 rfl rfl hM ?_
  refine x_iload_n 5 C dX12_siteOf_4 rfl rfl ?_
  refine x_mldZ 6 6 C dX12_siteOf_5 rfl rfl hM (by first | exact hIx | exact ⟨by omega, Int.lt_of_lt_of_le (b := 16) (by omega) (by decide)⟩) ?_
  refine x_if_eq 9 11 C dX12_siteOf_6 rfl (by decide) (by first | exact hw.2.2.1 _ _ | exact hr0 _ _ | assumption | omega | exact ⟨by omega, by omega⟩) (fun h6 => ?_) (fun h6 => ?_)
  · skip
    refine x_iload_n 12 C dX12_siteOf_11 rfl rfl ?_
    refine x_istore_n 13 C dX12_siteOf_12 rfl rfl rfl ?_
    refine x_loop (α := Int) (fun b => b.toNat) (fun b => 0 ≤ b ∧ b < R 3 0 ∧ rUp R 16 b = rUp R 16 its) (fun b => wR G R) (fun b => [some (.ref o), some (.int (i32 its)), some (.int (i32 b))]) (fun _ => []) its ⟨h1.1, h1.2, rfl⟩ rfl rfl rfl ?_
    intro aa hI ih
    obtain ⟨b, rfl⟩ := (⟨aa, rfl⟩ : ∃ z, z = aa)
    (try dsimp only at hI); (try dsimp only at ih); (try dsimp only)
    obtain ⟨i1, i2, i3⟩ := hI
    have hu := hH.2 b.toNat (by omega)
    have hb : (b.toNat : Int) = b := Int.toNat_of_nonneg i1
    refine x_aload_n 14 C dX12_siteOf_13 rfl rfl ?_
    refine x_mrow 17 4 C fr_X12_7 dX12_siteOf_14 rfl rfl hM ?_
    refine x_iload_n 18 C dX12_siteOf_17 rfl rfl ?_
    refine x_mldI 19 4 C dX12_siteOf_18 rfl rfl hM (by first | exact hIx | exact ⟨by omega, Int.lt_of_lt_of_le (b := 16) (by omega) (by decide)⟩) ?_
    refine x_iconst 20 C dX12_siteOf_19 rfl ?_
    refine x_icmp_eq 23 47 C dX12_siteOf_20 rfl (by decide) (by first | exact hw.2.2.1 _ _ | exact hr0 _ _ | assumption | omega | exact ⟨by omega, by omega⟩) (by first | exact hw.2.2.1 _ _ | exact hr0 _ _ | assumption | omega | exact ⟨by omega, by omega⟩) (fun h20 => ?_) (fun h20 => ?_)
    · skip
      refine x_iload_n 48 C dX12_siteOf_47 rfl rfl ?_
      exact x_iret C dX12_siteOf_48 rfl ⟨vi (by rw [rSiteOf, if_neg (by simpa using h6), ← i3]; first | exact (rUp_stop (Or.inl h20)).symm | exact (rUp_stop (Or.inr h34)).symm), rfl⟩
    · skip
      refine x_aload_n 24 C dX12_siteOf_23 rfl rfl ?_
      refine x_mrow 27 6 C fr_X12_16 dX12_siteOf_24 rfl rfl hM ?_
      refine x_aload_n 28 C dX12_siteOf_27 rfl rfl ?_
      refine x_mrow 31 4 C fr_X12_7 dX12_siteOf_28 rfl rfl hM ?_
      refine x_iload_n 32 C dX12_siteOf_31 rfl rfl ?_
      refine x_mldI 33 4 C dX12_siteOf_32 rfl rfl hM (by first | exact hIx | exact ⟨by omega, Int.lt_of_lt_of_le (b := 16) (by omega) (by decide)⟩) ?_
      refine x_mldZ 34 6 C dX12_siteOf_33 rfl rfl hM (by first | exact hIx | exact ⟨by omega, Int.lt_of_lt_of_le (b := 16) (by omega) (by decide)⟩) ?_
      refine x_if_ne 37 47 C dX12_siteOf_34 rfl (by decide) (by first | exact hw.2.2.1 _ _ | exact hr0 _ _ | assumption | omega | exact ⟨by omega, by omega⟩) (fun h34 => ?_) (fun h34 => ?_)
      · skip
        refine x_iload_n 48 C dX12_siteOf_47 rfl rfl ?_
        exact x_iret C dX12_siteOf_48 rfl ⟨vi (by rw [rSiteOf, if_neg (by simpa using h6), ← i3]; first | exact (rUp_stop (Or.inl h20)).symm | exact (rUp_stop (Or.inr h34)).symm), rfl⟩
      · skip
        refine x_aload_n 38 C dX12_siteOf_37 rfl rfl ?_
        refine x_mrow 41 4 C fr_X12_7 dX12_siteOf_38 rfl rfl hM ?_
        refine x_iload_n 42 C dX12_siteOf_41 rfl rfl ?_
        refine x_mldI 43 4 C dX12_siteOf_42 rfl rfl hM (by first | exact hIx | exact ⟨by omega, Int.lt_of_lt_of_le (b := 16) (by omega) (by decide)⟩) ?_
        refine x_istore_n 44 C dX12_siteOf_43 rfl rfl rfl ?_
        refine x_goto 13 C dX12_siteOf_44 (by decide) ?_
        exact ih _ ⟨by omega, by omega, by rw [← i3]; exact (rUp_step hH i1 i2 h20 h34).symm⟩ (by omega)
  · skip
    refine x_iload_n 10 C dX12_siteOf_9 rfl rfl ?_
    exact x_iret C dX12_siteOf_10 rfl ⟨vi (by rw [rSiteOf, if_pos h6]), rfl⟩
