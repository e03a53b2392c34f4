/-! rows laid by program (wip/tools/gen.py) -/
set_option maxHeartbeats 4000000 in
set_option maxRecDepth 100000 in
theorem c_X12_address {E : EV} {l : Launch} {G : GT} {R : RT} {o : Nat} {a b c1 d : Int} (hM : RM G o) (h1 : InR a) (h2 : InR b) (h3 : InR c1) (h4 : InR d) (hH : RH R) (hA : RA R) : MT E l yX12_address cX12_address 8 (some .int) 2 51 0 0 [.ref o, .int (i32 a), .int (i32 b), .int (i32 c1), .int (i32 d)] (wR G R) (pD (some (.int (i32 (rAddr R a b c1 d)))) (wR G (rF (rAMid R a b c1 d) (rACode R a b c1 d)))) := by
  refine mt_of (own := RX12) (L := [some (.ref o), some (.int (i32 a)), some (.int (i32 b)), some (.int (i32 c1)), some (.int (i32 d)), none, none, none]) (by decide +kernel) rfl (Nat.le_of_ble_eq_true rfl) (List.forall_mem_cons.mpr ⟨rfl, (List.forall_mem_cons.mpr ⟨rfl, (List.forall_mem_cons.mpr ⟨rfl, (List.forall_mem_cons.mpr ⟨rfl, (List.forall_mem_cons.mpr ⟨rfl, (fun _ h => absurd h List.not_mem_nil)⟩)⟩)⟩)⟩)⟩) rfl ?_
  intro p e s m args below meth c C hin
  refine x_wf (fun hw => ?_)
  have hr0 : ∀ k j, InR (R k j) := hw.2.2.1
  have hz0 : ∀ k j, mZ k = true → R k j = 0 ∨ R k j = 1 := hw.2.2.2.2.1
  have hh0 := hH.1
  have hh := hA.1
  have hh2 := hA.2
  have hf := rTells_in hA a b c1 d
  have hc : 0 ≤ rACode R a b c1 d ∧ rACode R a b c1 d ≤ 3 := by unfold rACode; (repeat (first | omega | split))
  have hf2 : -1 ≤ rAFound R a b c1 d ∧ rAFound R a b c1 d < 24 := by unfold rAFound; split <;> omega
  refine x_aload_n 1 C dX12_address_0 rfl rfl ?_
  refine x_iload_n 2 C dX12_address_1 rfl rfl ?_
  refine x_Vr (As := [_]) 5 C vw_X12_175 iw_X12_isHost sw_X12_isHost (c_X12_isHost hM (by assumption) hH) dX12_address_2 rfl rfl rfl rfl rfl rfl hM.1 ⟨Nat.le_of_ble_eq_true rfl, Nat.le_of_ble_eq_true rfl⟩ (Nat.le_of_ble_eq_true rfl) ?_
  refine x_istore 7 C dX12_address_5 rfl rfl rfl ?_
  refine x_joinv 40 (fun vJ => vJ = bI (rAOk a c1 d)) ?_ (fun hJ40 => ?_)
  · intro vJ hJ
    subst hJ
    refine x_istore 42 C dX12_address_40 rfl rfl rfl ?_
    refine x_join (α := Int) 65 (fun v => v = rAFound R a b c1 d) (fun v => wR G (rAMid R a b c1 d)) (fun v => [some (.ref o), some (.int (i32 a)), some (.int (i32 b)), some (.int (i32 c1)), some (.int (i32 d)), some (.int (i32 (bI (rIsHost R b)))), some (.int (i32 (bI (rAOk a c1 d)))), none]) (fun v => [.int (i32 v)]) ?_ (fun hJ65 => ?_)
    · intro aa hJ
      obtain ⟨v, rfl⟩ := (⟨aa, rfl⟩ : ∃ z, z = aa)
      (try dsimp only at hJ); (try dsimp only)
      subst hJ
      refine x_wf (fun hw => ?_)
      refine x_istore 67 C dX12_address_65 rfl rfl rfl ?_
      refine x_aload_n 68 C dX12_address_67 rfl rfl ?_
      refine x_joinv 97 (fun vJ => vJ = rACode R a b c1 d) ?_ (fun hJ97 => ?_)
      · intro vJ hJ
        subst hJ
        refine x_Vr (As := [_]) 100 C vw_X12_187 iw_X12_fails sw_X12_fails (c_X12_fails hM (by first | assumption | omega | exact ⟨by omega, by omega⟩)) dX12_address_97 rfl rfl rfl rfl rfl rfl hM.1 ⟨Nat.le_of_ble_eq_true rfl, Nat.le_of_ble_eq_true rfl⟩ (Nat.le_of_ble_eq_true rfl) ?_
        refine x_wf (fun hw => ?_)
        refine x_if_eqB 103 107 C dX12_address_100 rfl (by decide) (fun h100 => ?_) (fun h100 => ?_)
        · skip
          replace h100 := of_decide_eq_false h100
          refine x_iload 109 C dX12_address_107 rfl rfl ?_
          exact x_iret C dX12_address_109 rfl ⟨vi (by first | rfl | (simp [bI, rAddr, h100]; done) | (simp [bI, rAddr, h100]; omega)), rfl⟩
        · skip
          replace h100 := of_decide_eq_true h100
          refine x_iconst 104 C dX12_address_103 rfl ?_
          refine x_goto 109 C dX12_address_104 (by decide) ?_
          exact x_iret C dX12_address_109 rfl ⟨vi (by first | rfl | (simp [bI, rAddr, h100]; done) | (simp [bI, rAddr, h100]; omega)), rfl⟩
      · skip
        refine x_iload 70 C dX12_address_68 rfl rfl ?_
        refine x_if_neB 73 77 C dX12_address_70 rfl (by decide) (fun h70 => ?_) (fun h70 => ?_)
        · skip
          refine x_iload 79 C dX12_address_77 rfl rfl ?_
          refine x_if_neB 82 86 C dX12_address_79 rfl (by decide) (fun h79 => ?_) (fun h79 => ?_)
          · skip
            refine x_iload 88 C dX12_address_86 rfl rfl ?_
            refine x_iconst 89 C dX12_address_88 rfl ?_
            refine x_icmp_ne 92 96 C dX12_address_89 rfl (by decide) (by first | exact hw.2.2.1 _ _ | exact hr0 _ _ | assumption | omega | exact ⟨by omega, by omega⟩) (by first | exact hw.2.2.1 _ _ | exact hr0 _ _ | assumption | omega | exact ⟨by omega, by omega⟩) (fun h89 => ?_) (fun h89 => ?_)
            · skip
              refine x_iconst 97 C dX12_address_96 rfl ?_
              exact hJ97 _ (by first | (simp [bI, rACode, h70, h79, h89]; done) | (simp [bI, rACode, h70, h79, h89]; omega) | (simp [bI, rACode, h70, h79, h89] at *; omega))
            · skip
              refine x_iconst 93 C dX12_address_92 rfl ?_
              refine x_goto 97 C dX12_address_93 (by decide) ?_
              exact hJ97 _ (by first | (simp [bI, rACode, h70, h79, h89]; done) | (simp [bI, rACode, h70, h79, h89]; omega) | (simp [bI, rACode, h70, h79, h89] at *; omega))
          · skip
            refine x_iconst 83 C dX12_address_82 rfl ?_
            refine x_goto 97 C dX12_address_83 (by decide) ?_
            exact hJ97 _ (by first | (simp [bI, rACode, h70, h79]; done) | (simp [bI, rACode, h70, h79]; omega) | (simp [bI, rACode, h70, h79] at *; omega))
        · skip
          refine x_iconst 74 C dX12_address_73 rfl ?_
          refine x_goto 97 C dX12_address_74 (by decide) ?_
          exact hJ97 _ (by first | (simp [bI, rACode, h70]; done) | (simp [bI, rACode, h70]; omega) | (simp [bI, rACode, h70] at *; omega))
    · skip
      refine x_iload 44 C dX12_address_42 rfl rfl ?_
      refine x_if_eqB 47 64 C dX12_address_44 rfl (by decide) (fun h44 => ?_) (fun h44 => ?_)
      · skip
        refine x_iconst 65 C dX12_address_64 rfl ?_
        exact x_as (congrArg (wR G) (by simp [rAMid, bI, h44])) rfl (by simp [rAFound, bI, h44]) (hJ65 _ rfl)
      · skip
        refine x_iload 49 C dX12_address_47 rfl rfl ?_
        refine x_if_eqB 52 64 C dX12_address_49 rfl (by decide) (fun h49 => ?_) (fun h49 => ?_)
        · skip
          refine x_iconst 65 C dX12_address_64 rfl ?_
          exact x_as (congrArg (wR G) (by simp [rAMid, bI, h44, h49])) rfl (by simp [rAFound, bI, h44, h49]) (hJ65 _ rfl)
        · skip
          refine x_aload_n 53 C dX12_address_52 rfl rfl ?_
          refine x_iload_n 54 C dX12_address_53 rfl rfl ?_
          refine x_iload_n 55 C dX12_address_54 rfl rfl ?_
          refine x_iload_n 56 C dX12_address_55 rfl rfl ?_
          refine x_iload 58 C dX12_address_56 rfl rfl ?_
          refine x_Vr (As := [_, _, _, _]) 61 C vw_X12_200 iw_X12_tells sw_X12_tells (c_X12_tells hM (by assumption) (by assumption) (by assumption) (by assumption) hA) dX12_address_58 rfl rfl rfl rfl rfl rfl hM.1 ⟨Nat.le_of_ble_eq_true rfl, Nat.le_of_ble_eq_true rfl⟩ (Nat.le_of_ble_eq_true rfl) ?_
          refine x_wf (fun hw => ?_)
          refine x_goto 65 C dX12_address_61 (by decide) ?_
          exact x_as (congrArg (wR G) (by simp [rAMid, bI, h44, h49])) rfl (by simp [rAFound, bI, h44, h49]) (hJ65 _ rfl)
  · skip
    refine x_iload_n 8 C dX12_address_7 rfl rfl ?_
    refine x_iconst 9 C dX12_address_8 rfl ?_
    refine x_iconst 10 C dX12_address_9 rfl ?_
    refine x_Sr (As := [_, _, _]) 13 C vw_X12_168 tw_X12_lies (c_X12_lies (by first | assumption | omega) (by omega) (by omega)) dX12_address_10 rfl rfl rfl ⟨Nat.le_of_ble_eq_true rfl, Nat.le_of_ble_eq_true rfl⟩ (Nat.le_of_ble_eq_true rfl) ?_
    refine x_if_eqB 16 39 C dX12_address_13 rfl (by decide) (fun h13 => ?_) (fun h13 => ?_)
    · skip
      refine x_iconst 40 C dX12_address_39 rfl ?_
      exact hJ40 _ (by first | (simp [bI, rAOk, h13]; done) | (simp [bI, rAOk, h13]; omega) | (simp [bI, rAOk, h13] at *; omega))
    · skip
      refine x_iload_n 17 C dX12_address_16 rfl rfl ?_
      refine x_iconst 18 C dX12_address_17 rfl ?_
      refine x_sipush 21 C dX12_address_18 rfl (by decide) ?_
      refine x_Sr (As := [_, _, _]) 24 C vw_X12_168 tw_X12_lies (c_X12_lies (by first | assumption | omega) (by omega) (by omega)) dX12_address_21 rfl rfl rfl ⟨Nat.le_of_ble_eq_true rfl, Nat.le_of_ble_eq_true rfl⟩ (Nat.le_of_ble_eq_true rfl) ?_
      refine x_if_eqB 27 39 C dX12_address_24 rfl (by decide) (fun h24 => ?_) (fun h24 => ?_)
      · skip
        refine x_iconst 40 C dX12_address_39 rfl ?_
        exact hJ40 _ (by first | (simp [bI, rAOk, h13, h24]; done) | (simp [bI, rAOk, h13, h24]; omega) | (simp [bI, rAOk, h13, h24] at *; omega))
      · skip
        refine x_iload 29 C dX12_address_27 rfl rfl ?_
        refine x_Sr (As := [_]) 32 C vw_X12_197 tw_X12_isPath (c_X12_isPath (by first | assumption | omega)) dX12_address_29 rfl rfl rfl ⟨Nat.le_of_ble_eq_true rfl, Nat.le_of_ble_eq_true rfl⟩ (Nat.le_of_ble_eq_true rfl) ?_
        refine x_if_eqB 35 39 C dX12_address_32 rfl (by decide) (fun h32 => ?_) (fun h32 => ?_)
        · skip
          refine x_iconst 40 C dX12_address_39 rfl ?_
          exact hJ40 _ (by first | (simp [bI, rAOk, h13, h24, h32]; done) | (simp [bI, rAOk, h13, h24, h32]; omega) | (simp [bI, rAOk, h13, h24, h32] at *; omega))
        · skip
          refine x_iconst 36 C dX12_address_35 rfl ?_
          refine x_goto 40 C dX12_address_36 (by decide) ?_
          exact hJ40 _ (by first | (simp [bI, rAOk, h13, h24, h32]; done) | (simp [bI, rAOk, h13, h24, h32]; omega) | (simp [bI, rAOk, h13, h24, h32] at *; omega))
set_option maxHeartbeats 4000000 in
set_option maxRecDepth 100000 in
theorem c_X12_isReference {E : EV} {l : Launch} {G : GT} {R : RT} {x : Int} (h1 : InR x) : MT E l yX12_isReference cX12_isReference 1 (some .boolean) 1 22 0 0 [.int (i32 x)] (wR G R) (pD (some (.int (i32 (bI (rIsRef x))))) (wR G (R))) := by
  refine mt_of (own := RX12) (L := [some (.int (i32 x))]) (by decide +kernel) rfl (Nat.le_of_ble_eq_true rfl) (List.forall_mem_cons.mpr ⟨rfl, (fun _ h => absurd h List.not_mem_nil)⟩) rfl ?_
  intro p e s m args below meth c C hin
  refine x_wf (fun hw => ?_)
  have hr0 : ∀ k j, InR (R k j) := hw.2.2.1
  have hz0 : ∀ k j, mZ k = true → R k j = 0 ∨ R k j = 1 := hw.2.2.2.2.1
  refine x_iload_n 1 C dX12_isReference_0 rfl rfl ?_
  refine x_iconst 2 C dX12_isReference_1 rfl ?_
  refine x_iconst 3 C dX12_isReference_2 rfl ?_
  refine x_Sr (As := [_, _, _]) 6 C vw_X12_168 tw_X12_lies (c_X12_lies (by first | assumption | omega) (by omega) (by omega)) dX12_isReference_3 rfl rfl rfl ⟨Nat.le_of_ble_eq_true rfl, Nat.le_of_ble_eq_true rfl⟩ (Nat.le_of_ble_eq_true rfl) ?_
  refine x_if_neB 9 58 C dX12_isReference_6 rfl (by decide) (fun h6 => ?_) (fun h6 => ?_)
  · skip
    refine x_iconst 59 C dX12_isReference_58 rfl ?_
    refine x_goto 63 C dX12_isReference_59 (by decide) ?_
    exact x_iret C dX12_isReference_63 (by first | rfl | exact nar_b _ | exact nar_01 (by first | assumption | omega | exact hw.2.2.2.2.1 _ _ rfl | exact hz0 _ _ rfl)) ⟨vi (by first | rfl | (simp [bI, rIsRef, h6]; done) | (simp [bI, rIsRef, h6]; omega)), rfl⟩
  · skip
    refine x_iload_n 10 C dX12_isReference_9 rfl rfl ?_
    refine x_bipush 12 C dX12_isReference_10 rfl (by decide) ?_
    refine x_bipush 14 C dX12_isReference_12 rfl (by decide) ?_
    refine x_Sr (As := [_, _, _]) 17 C vw_X12_168 tw_X12_lies (c_X12_lies (by first | assumption | omega) (by omega) (by omega)) dX12_isReference_14 rfl rfl rfl ⟨Nat.le_of_ble_eq_true rfl, Nat.le_of_ble_eq_true rfl⟩ (Nat.le_of_ble_eq_true rfl) ?_
    refine x_if_neB 20 58 C dX12_isReference_17 rfl (by decide) (fun h17 => ?_) (fun h17 => ?_)
    · skip
      refine x_iconst 59 C dX12_isReference_58 rfl ?_
      refine x_goto 63 C dX12_isReference_59 (by decide) ?_
      exact x_iret C dX12_isReference_63 (by first | rfl | exact nar_b _ | exact nar_01 (by first | assumption | omega | exact hw.2.2.2.2.1 _ _ rfl | exact hz0 _ _ rfl)) ⟨vi (by first | rfl | (simp [bI, rIsRef, h6, h17]; done) | (simp [bI, rIsRef, h6, h17]; omega)), rfl⟩
    · skip
      refine x_iload_n 21 C dX12_isReference_20 rfl rfl ?_
      refine x_bipush 23 C dX12_isReference_21 rfl (by decide) ?_
      refine x_sipush 26 C dX12_isReference_23 rfl (by decide) ?_
      refine x_Sr (As := [_, _, _]) 29 C vw_X12_168 tw_X12_lies (c_X12_lies (by first | assumption | omega) (by omega) (by omega)) dX12_isReference_26 rfl rfl rfl ⟨Nat.le_of_ble_eq_true rfl, Nat.le_of_ble_eq_true rfl⟩ (Nat.le_of_ble_eq_true rfl) ?_
      refine x_if_neB 32 58 C dX12_isReference_29 rfl (by decide) (fun h29 => ?_) (fun h29 => ?_)
      · skip
        refine x_iconst 59 C dX12_isReference_58 rfl ?_
        refine x_goto 63 C dX12_isReference_59 (by decide) ?_
        exact x_iret C dX12_isReference_63 (by first | rfl | exact nar_b _ | exact nar_01 (by first | assumption | omega | exact hw.2.2.2.2.1 _ _ rfl | exact hz0 _ _ rfl)) ⟨vi (by first | rfl | (simp [bI, rIsRef, h6, h17, h29]; done) | (simp [bI, rIsRef, h6, h17, h29]; omega)), rfl⟩
      · skip
        refine x_iload_n 33 C dX12_isReference_32 rfl rfl ?_
        refine x_sipush 36 C dX12_isReference_33 rfl (by decide) ?_
        refine x_sipush 39 C dX12_isReference_36 rfl (by decide) ?_
        refine x_Sr (As := [_, _, _]) 42 C vw_X12_168 tw_X12_lies (c_X12_lies (by first | assumption | omega) (by omega) (by omega)) dX12_isReference_39 rfl rfl rfl ⟨Nat.le_of_ble_eq_true rfl, Nat.le_of_ble_eq_true rfl⟩ (Nat.le_of_ble_eq_true rfl) ?_
        refine x_if_neB 45 58 C dX12_isReference_42 rfl (by decide) (fun h42 => ?_) (fun h42 => ?_)
        · skip
          refine x_iconst 59 C dX12_isReference_58 rfl ?_
          refine x_goto 63 C dX12_isReference_59 (by decide) ?_
          exact x_iret C dX12_isReference_63 (by first | rfl | exact nar_b _ | exact nar_01 (by first | assumption | omega | exact hw.2.2.2.2.1 _ _ rfl | exact hz0 _ _ rfl)) ⟨vi (by first | rfl | (simp [bI, rIsRef, h6, h17, h29, h42]; done) | (simp [bI, rIsRef, h6, h17, h29, h42]; omega)), rfl⟩
        · skip
          refine x_iload_n 46 C dX12_isReference_45 rfl rfl ?_
          refine x_sipush 49 C dX12_isReference_46 rfl (by decide) ?_
          refine x_sipush 52 C dX12_isReference_49 rfl (by decide) ?_
          refine x_Sr (As := [_, _, _]) 55 C vw_X12_168 tw_X12_lies (c_X12_lies (by first | assumption | omega) (by omega) (by omega)) dX12_isReference_52 rfl rfl rfl ⟨Nat.le_of_ble_eq_true rfl, Nat.le_of_ble_eq_true rfl⟩ (Nat.le_of_ble_eq_true rfl) ?_
          refine x_if_eqB 58 62 C dX12_isReference_55 rfl (by decide) (fun h55 => ?_) (fun h55 => ?_)
          · skip
            refine x_iconst 63 C dX12_isReference_62 rfl ?_
            exact x_iret C dX12_isReference_63 (by first | rfl | exact nar_b _ | exact nar_01 (by first | assumption | omega | exact hw.2.2.2.2.1 _ _ rfl | exact hz0 _ _ rfl)) ⟨vi (by first | rfl | (simp [bI, rIsRef, h6, h17, h29, h42, h55]; done) | (simp [bI, rIsRef, h6, h17, h29, h42, h55]; omega)), rfl⟩
          · skip
            refine x_iconst 59 C dX12_isReference_58 rfl ?_
            refine x_goto 63 C dX12_isReference_59 (by decide) ?_
            exact x_iret C dX12_isReference_63 (by first | rfl | exact nar_b _ | exact nar_01 (by first | assumption | omega | exact hw.2.2.2.2.1 _ _ rfl | exact hz0 _ _ rfl)) ⟨vi (by first | rfl | (simp [bI, rIsRef, h6, h17, h29, h42, h55]; done) | (simp [bI, rIsRef, h6, h17, h29, h42, h55]; omega)), rfl⟩
set_option maxHeartbeats 4000000 in
set_option maxRecDepth 100000 in
theorem c_X12_letters {E : EV} {l : Launch} {G : GT} {R : RT} {w : Int} (h1 : InR w) : MT E l yX12_letters cX12_letters 1 (some .int) 0 0 0 0 [.int (i32 w)] (wR G R) (pD (some (.int (i32 (rLetters w)))) (wR G (R))) := by
  refine mt_of (own := RX12) (L := [some (.int (i32 w))]) (by decide +kernel) rfl (Nat.le_of_ble_eq_true rfl) (List.forall_mem_cons.mpr ⟨rfl, (fun _ h => absurd h List.not_mem_nil)⟩) rfl ?_
  intro p e s m args below meth c C hin
  refine x_wf (fun hw => ?_)
  have hr0 : ∀ k j, InR (R k j) := hw.2.2.1
  have hz0 : ∀ k j, mZ k = true → R k j = 0 ∨ R k j = 1 := hw.2.2.2.2.1
  refine x_iload_n 1 C dX12_letters_0 rfl rfl ?_
  refine x_bipush 3 C dX12_letters_1 rfl (by decide) ?_
  refine x_icmp_ge 6 10 C dX12_letters_3 rfl (by decide) (by first | exact hw.2.2.1 _ _ | exact hr0 _ _ | assumption | omega | exact ⟨by omega, by omega⟩) (by first | exact hw.2.2.1 _ _ | exact hr0 _ _ | assumption | omega | exact ⟨by omega, by omega⟩) (fun h3 => ?_) (fun h3 => ?_)
  · skip
    refine x_iconst 11 C dX12_letters_10 rfl ?_
    exact x_iret C dX12_letters_11 rfl ⟨vi (by first | rfl | (simp [bI, rLetters, h3]; done) | (simp [bI, rLetters, h3]; omega)), rfl⟩
  · skip
    refine x_iconst 7 C dX12_letters_6 rfl ?_
    refine x_goto 11 C dX12_letters_7 (by decide) ?_
    exact x_iret C dX12_letters_11 rfl ⟨vi (by first | rfl | (simp [bI, rLetters, h3]; done) | (simp [bI, rLetters, h3]; omega)), rfl⟩
set_option maxHeartbeats 4000000 in
set_option maxRecDepth 100000 in
theorem c_X12_letter {E : EV} {l : Launch} {G : GT} {R : RT} {w k : Int} (h1 : 0 ≤ w ∧ w ≤ 701) (h2 : InR k) : MT E l yX12_letter cX12_letter 2 (some .char) 0 0 0 0 [.int (i32 w), .int (i32 k)] (wR G R) (pD (some (.int (i32 (rLetter w k)))) (wR G (R))) := by
  refine mt_of (own := RX12) (L := [some (.int (i32 w)), some (.int (i32 k))]) (by decide +kernel) rfl (Nat.le_of_ble_eq_true rfl) (List.forall_mem_cons.mpr ⟨rfl, (List.forall_mem_cons.mpr ⟨rfl, (fun _ h => absurd h List.not_mem_nil)⟩)⟩) rfl ?_
  intro p e s m args below meth c C hin
  refine x_wf (fun hw => ?_)
  have hr0 : ∀ k j, InR (R k j) := hw.2.2.1
  have hz0 : ∀ k j, mZ k = true → R k j = 0 ∨ R k j = 1 := hw.2.2.2.2.1
  refine x_iload_n 1 C dX12_letter_0 rfl rfl ?_
  refine x_bipush 3 C dX12_letter_1 rfl (by decide) ?_
  refine x_icmp_ge 6 21 C dX12_letter_3 rfl (by decide) (by first | exact hw.2.2.1 _ _ | exact hr0 _ _ | assumption | omega | exact ⟨by omega, by omega⟩) (by first | exact hw.2.2.1 _ _ | exact hr0 _ _ | assumption | omega | exact ⟨by omega, by omega⟩) (fun h3 => ?_) (fun h3 => ?_)
  · skip
    refine x_iload_n 22 C dX12_letter_21 rfl rfl ?_
    refine x_if_ne 25 39 C dX12_letter_22 rfl (by decide) (by first | exact hw.2.2.1 _ _ | exact hr0 _ _ | assumption | omega | exact ⟨by omega, by omega⟩) (fun h22 => ?_) (fun h22 => ?_)
    · skip
      refine x_iload_n 40 C dX12_letter_39 rfl rfl ?_
      refine x_iconst 41 C dX12_letter_40 rfl ?_
      refine x_icmp_ne 44 58 C dX12_letter_41 rfl (by decide) (by first | exact hw.2.2.1 _ _ | exact hr0 _ _ | assumption | omega | exact ⟨by omega, by omega⟩) (by first | exact hw.2.2.1 _ _ | exact hr0 _ _ | assumption | omega | exact ⟨by omega, by omega⟩) (fun h41 => ?_) (fun h41 => ?_)
      · skip
        refine x_bipush 60 C dX12_letter_58 rfl (by decide) ?_
        exact x_iret C dX12_letter_60 (nar_c (by omega)) ⟨vi (by first | rfl | (simp [bI, rLetter, h3, h22, h41]; done) | (simp [bI, rLetter, h3, h22, h41]; omega)), rfl⟩
      · skip
        refine x_bipush 46 C dX12_letter_44 rfl (by decide) ?_
        refine x_iload_n 47 C dX12_letter_46 rfl rfl ?_
        refine x_bipush 49 C dX12_letter_47 rfl (by decide) ?_
        refine x_isub 50 C dX12_letter_49 rfl ?_
        refine x_bipush 52 C dX12_letter_50 rfl (by decide) ?_
        refine x_irem 53 C dX12_letter_52 rfl (by omega) ?_
        refine x_iadd 54 C dX12_letter_53 rfl ?_
        refine x_i2c 55 C dX12_letter_54 rfl (by omega) ?_
        refine x_goto 60 C dX12_letter_55 (by decide) ?_
        exact x_iret C dX12_letter_60 (nar_c (by omega)) ⟨vi (by first | rfl | (simp [bI, rLetter, h3, h22, h41]; done) | (simp [bI, rLetter, h3, h22, h41]; omega)), rfl⟩
    · skip
      refine x_bipush 27 C dX12_letter_25 rfl (by decide) ?_
      refine x_iload_n 28 C dX12_letter_27 rfl rfl ?_
      refine x_bipush 30 C dX12_letter_28 rfl (by decide) ?_
      refine x_isub 31 C dX12_letter_30 rfl ?_
      refine x_bipush 33 C dX12_letter_31 rfl (by decide) ?_
      refine x_idiv 34 C dX12_letter_33 rfl (by omega) ?_
      refine x_iadd 35 C dX12_letter_34 rfl ?_
      refine x_i2c 36 C dX12_letter_35 rfl (by omega) ?_
      refine x_goto 60 C dX12_letter_36 (by decide) ?_
      exact x_iret C dX12_letter_60 (nar_c (by omega)) ⟨vi (by first | rfl | (simp [bI, rLetter, h3, h22]; done) | (simp [bI, rLetter, h3, h22]; omega)), rfl⟩
  · skip
    refine x_iload_n 7 C dX12_letter_6 rfl rfl ?_
    refine x_if_ne 10 18 C dX12_letter_7 rfl (by decide) (by first | exact hw.2.2.1 _ _ | exact hr0 _ _ | assumption | omega | exact ⟨by omega, by omega⟩) (fun h7 => ?_) (fun h7 => ?_)
    · skip
      refine x_bipush 20 C dX12_letter_18 rfl (by decide) ?_
      exact x_iret C dX12_letter_20 (nar_c (by omega)) ⟨vi (by first | rfl | (simp [bI, rLetter, h3, h7]; done) | (simp [bI, rLetter, h3, h7]; omega)), rfl⟩
    · skip
      refine x_bipush 12 C dX12_letter_10 rfl (by decide) ?_
      refine x_iload_n 13 C dX12_letter_12 rfl rfl ?_
      refine x_iadd 14 C dX12_letter_13 rfl ?_
      refine x_i2c 15 C dX12_letter_14 rfl (by omega) ?_
      refine x_goto 20 C dX12_letter_15 (by decide) ?_
      exact x_iret C dX12_letter_20 (nar_c (by omega)) ⟨vi (by first | rfl | (simp [bI, rLetter, h3, h7]; done) | (simp [bI, rLetter, h3, h7]; omega)), rfl⟩
set_option maxHeartbeats 4000000 in
set_option maxRecDepth 100000 in
theorem c_X12_redirect {E : EV} {l : Launch} {G : GT} {R : RT} {o : Nat} {a b c1 : Int} (hM : RM G o) (h1 : InR a) (h2 : InR b) (h3 : InR c1) (hA : RA R) : MT E l yX12_redirect cX12_redirect 5 none 2 43 0 0 [.ref o, .int (i32 a), .int (i32 b), .int (i32 c1)] (wR G R) (pD none (wR G (rRedR R a b c1))) := by
  refine mt_of (own := RX12) (L := [some (.ref o), some (.int (i32 a)), some (.int (i32 b)), some (.int (i32 c1)), none]) (by decide +kernel) rfl (Nat.le_of_ble_eq_true rfl) (List.forall_mem_cons.mpr ⟨rfl, (List.forall_mem_cons.mpr ⟨rfl, (List.forall_mem_cons.mpr ⟨rfl, (List.forall_mem_cons.mpr ⟨rfl, (fun _ h => absurd h List.not_mem_nil)⟩)⟩)⟩)⟩) rfl ?_
  intro p e s m args below meth c C hin
  refine x_wf (fun hw => ?_)
  have hr0 : ∀ k j, InR (R k j) := hw.2.2.1
  have hz0 : ∀ k j, mZ k = true → R k j = 0 ∨ R k j = 1 := hw.2.2.2.2.1
  have hh := hA.1
  have hh2 := hA.2
  have hc : 0 ≤ rRedC R a b c1 ∧ rRedC R a b c1 ≤ 3 := by unfold rRedC; (repeat (first | omega | split))
  refine x_joinv 26 (fun vJ => vJ = bI (rRedIs R a b)) ?_ (fun hJ26 => ?_)
  · intro vJ hJ
    subst hJ
    refine x_istore 28 C dX12_redirect_26 rfl rfl rfl ?_
    refine x_aload_n 29 C dX12_redirect_28 rfl rfl ?_
    refine x_joinv 52 (fun vJ => vJ = rRedC R a b c1) ?_ (fun hJ52 => ?_)
    · intro vJ hJ
      subst hJ
      refine x_Vr (As := [_]) 55 C vw_X12_187 iw_X12_fails sw_X12_fails (c_X12_fails hM (by first | assumption | omega | exact ⟨by omega, by omega⟩)) dX12_redirect_52 rfl rfl rfl rfl rfl rfl hM.1 ⟨Nat.le_of_ble_eq_true rfl, Nat.le_of_ble_eq_true rfl⟩ (Nat.le_of_ble_eq_true rfl) ?_
      refine x_wf (fun hw => ?_)
      refine x_if_neB 58 72 C dX12_redirect_55 rfl (by decide) (fun h55 => ?_) (fun h55 => ?_)
      · skip
        replace h55 := of_decide_eq_true h55
        exact x_ret C dX12_redirect_72 ⟨rfl, congrArg (wR G) (by first | rfl | (simp [bI, rRedR, rF, h55]; done) | (simp [bI, rRedR, rF, h55]; omega))⟩
      · skip
        replace h55 := of_decide_eq_false h55
        have hq : rRedIs R a b = true := by (by_cases q : rRedIs R a b = true; exact q; exact absurd (show 0 < rRedC R a b c1 by simp [rRedC, q]) h55)
        have hx : 0 ≤ a ∧ a ≤ R 7 0 - 1 := by (simp only [rRedIs, rIsAddress, Bool.and_eq_true] at hq; exact rLies_t.mp hq.1)
        refine x_aload_n 59 C dX12_redirect_58 rfl rfl ?_
        refine x_mrow 62 12 C fr_X12_32 dX12_redirect_59 rfl rfl hM ?_
        refine x_iload_n 63 C dX12_redirect_62 rfl rfl ?_
        refine x_iload_n 64 C dX12_redirect_63 rfl rfl ?_
        refine x_mstI 65 12 C dX12_redirect_64 rfl rfl hM ⟨by omega, Int.lt_of_lt_of_le (b := 24) (by omega) (by decide)⟩ (by first | exact hw.2.2.1 _ _ | exact hr0 _ _ | assumption | omega | exact ⟨by omega, by omega⟩) ?_
        refine x_wf (fun hw => ?_)
        refine x_aload_n 66 C dX12_redirect_65 rfl rfl ?_
        refine x_mrow 69 13 C fr_X12_35 dX12_redirect_66 rfl rfl hM ?_
        refine x_iload_n 70 C dX12_redirect_69 rfl rfl ?_
        refine x_iload_n 71 C dX12_redirect_70 rfl rfl ?_
        refine x_mstI 72 13 C dX12_redirect_71 rfl rfl hM ⟨by omega, Int.lt_of_lt_of_le (b := 24) (by omega) (by decide)⟩ (by first | exact hw.2.2.1 _ _ | exact hr0 _ _ | assumption | omega | exact ⟨by omega, by omega⟩) ?_
        refine x_wf (fun hw => ?_)
        exact x_ret C dX12_redirect_72 ⟨rfl, congrArg (wR G) (by first | rfl | (simp [bI, rRedR, rF, h55]; done) | (simp [bI, rRedR, rF, h55]; omega))⟩
    · skip
      refine x_iload 31 C dX12_redirect_29 rfl rfl ?_
      refine x_if_neB 34 38 C dX12_redirect_31 rfl (by decide) (fun h31 => ?_) (fun h31 => ?_)
      · skip
        refine x_iload_n 39 C dX12_redirect_38 rfl rfl ?_
        refine x_iconst 40 C dX12_redirect_39 rfl ?_
        refine x_iconst 41 C dX12_redirect_40 rfl ?_
        refine x_Sr (As := [_, _, _]) 44 C vw_X12_168 tw_X12_lies (c_X12_lies (by first | assumption | omega) (by omega) (by omega)) dX12_redirect_41 rfl rfl rfl ⟨Nat.le_of_ble_eq_true rfl, Nat.le_of_ble_eq_true rfl⟩ (Nat.le_of_ble_eq_true rfl) ?_
        refine x_if_eqB 47 51 C dX12_redirect_44 rfl (by decide) (fun h44 => ?_) (fun h44 => ?_)
        · skip
          refine x_iconst 52 C dX12_redirect_51 rfl ?_
          exact hJ52 _ (by first | (simp [bI, rRedC, h31, h44]; done) | (simp [bI, rRedC, h31, h44]; omega) | (simp [bI, rRedC, h31, h44] at *; omega))
        · skip
          refine x_iconst 48 C dX12_redirect_47 rfl ?_
          refine x_goto 52 C dX12_redirect_48 (by decide) ?_
          exact hJ52 _ (by first | (simp [bI, rRedC, h31, h44]; done) | (simp [bI, rRedC, h31, h44]; omega) | (simp [bI, rRedC, h31, h44] at *; omega))
      · skip
        refine x_iconst 35 C dX12_redirect_34 rfl ?_
        refine x_goto 52 C dX12_redirect_35 (by decide) ?_
        exact hJ52 _ (by first | (simp [bI, rRedC, h31]; done) | (simp [bI, rRedC, h31]; omega) | (simp [bI, rRedC, h31] at *; omega))
  · skip
    refine x_aload_n 1 C dX12_redirect_0 rfl rfl ?_
    refine x_iload_n 2 C dX12_redirect_1 rfl rfl ?_
    refine x_Vr (As := [_]) 5 C vw_X12_203 iw_X12_isAddress sw_X12_isAddress (c_X12_isAddress hM (by assumption) hA) dX12_redirect_2 rfl rfl rfl rfl rfl rfl hM.1 ⟨Nat.le_of_ble_eq_true rfl, Nat.le_of_ble_eq_true rfl⟩ (Nat.le_of_ble_eq_true rfl) ?_
    refine x_if_eqB 8 25 C dX12_redirect_5 rfl (by decide) (fun h5 => ?_) (fun h5 => ?_)
    · skip
      refine x_iconst 26 C dX12_redirect_25 rfl ?_
      exact hJ26 _ (by first | (simp [bI, rRedIs, h5]; done) | (simp [bI, rRedIs, h5]; omega) | (simp [bI, rRedIs, h5] at *; omega))
    · skip
      refine x_iload_n 9 C dX12_redirect_8 rfl rfl ?_
      refine x_iconst 10 C dX12_redirect_9 rfl ?_
      refine x_icmp_eq 13 21 C dX12_redirect_10 rfl (by decide) (by first | exact hw.2.2.1 _ _ | exact hr0 _ _ | assumption | omega | exact ⟨by omega, by omega⟩) (by first | exact hw.2.2.1 _ _ | exact hr0 _ _ | assumption | omega | exact ⟨by omega, by omega⟩) (fun h10 => ?_) (fun h10 => ?_)
      · skip
        refine x_iconst 22 C dX12_redirect_21 rfl ?_
        refine x_goto 26 C dX12_redirect_22 (by decide) ?_
        exact hJ26 _ (by first | (simp [bI, rRedIs, h5, h10]; done) | (simp [bI, rRedIs, h5, h10]; omega) | (simp [bI, rRedIs, h5, h10] at *; omega))
      · skip
        refine x_aload_n 14 C dX12_redirect_13 rfl rfl ?_
        refine x_iload_n 15 C dX12_redirect_14 rfl rfl ?_
        refine x_Vr (As := [_]) 18 C vw_X12_203 iw_X12_isAddress sw_X12_isAddress (c_X12_isAddress hM (by assumption) hA) dX12_redirect_15 rfl rfl rfl rfl rfl rfl hM.1 ⟨Nat.le_of_ble_eq_true rfl, Nat.le_of_ble_eq_true rfl⟩ (Nat.le_of_ble_eq_true rfl) ?_
        refine x_if_eqB 21 25 C dX12_redirect_18 rfl (by decide) (fun h18 => ?_) (fun h18 => ?_)
        · skip
          refine x_iconst 26 C dX12_redirect_25 rfl ?_
          exact hJ26 _ (by first | (simp [bI, rRedIs, h5, h10, h18]; done) | (simp [bI, rRedIs, h5, h10, h18]; omega) | (simp [bI, rRedIs, h5, h10, h18] at *; omega))
        · skip
          refine x_iconst 22 C dX12_redirect_21 rfl ?_
          refine x_goto 26 C dX12_redirect_22 (by decide) ?_
          exact hJ26 _ (by first | (simp [bI, rRedIs, h5, h10, h18]; done) | (simp [bI, rRedIs, h5, h10, h18]; omega) | (simp [bI, rRedIs, h5, h10, h18] at *; omega))
set_option maxHeartbeats 4000000 in
set_option maxRecDepth 100000 in
theorem c_X12_allow {E : EV} {l : Launch} {G : GT} {R : RT} {o : Nat} {a w c1 s1 t : Int} (hM : RM G o) (h1 : InR a) (h2 : InR w) (h3 : c1 = 0 ∨ c1 = 1) (h4 : InR s1) (h5 : InR t) (hA : RA R) : MT E l yX12_allow cX12_allow 7 none 2 43 0 0 [.ref o, .int (i32 a), .int (i32 w), .int (i32 c1), .int (i32 s1), .int (i32 t)] (wR G R) (pD none (wR G (rAllR R a w c1 s1 t))) := by
  refine mt_of (own := RX12) (L := [some (.ref o), some (.int (i32 a)), some (.int (i32 w)), some (.int (i32 c1)), some (.int (i32 s1)), some (.int (i32 t)), none]) (by decide +kernel) rfl (Nat.le_of_ble_eq_true rfl) (List.forall_mem_cons.mpr ⟨rfl, (List.forall_mem_cons.mpr ⟨rfl, (List.forall_mem_cons.mpr ⟨rfl, (List.forall_mem_cons.mpr ⟨rfl, (List.forall_mem_cons.mpr ⟨rfl, (List.forall_mem_cons.mpr ⟨rfl, (fun _ h => absurd h List.not_mem_nil)⟩)⟩)⟩)⟩)⟩)⟩) rfl ?_
  intro p e s m args below meth c C hin
  refine x_wf (fun hw => ?_)
  have hr0 : ∀ k j, InR (R k j) := hw.2.2.1
  have hz0 : ∀ k j, mZ k = true → R k j = 0 ∨ R k j = 1 := hw.2.2.2.2.1
  have hh := hA.1
  have hh2 := hA.2
  have hc : 0 ≤ rAllC R a w s1 t ∧ rAllC R a w s1 t ≤ 3 := by unfold rAllC; (repeat (first | omega | split))
  refine x_joinv 31 (fun vJ => vJ = bI (rAllIs R a w)) ?_ (fun hJ31 => ?_)
  · intro vJ hJ
    subst hJ
    refine x_istore 33 C dX12_allow_31 rfl rfl rfl ?_
    refine x_aload_n 34 C dX12_allow_33 rfl rfl ?_
    refine x_joinv 70 (fun vJ => vJ = rAllC R a w s1 t) ?_ (fun hJ70 => ?_)
    · intro vJ hJ
      subst hJ
      refine x_Vr (As := [_]) 73 C vw_X12_187 iw_X12_fails sw_X12_fails (c_X12_fails hM (by first | assumption | omega | exact ⟨by omega, by omega⟩)) dX12_allow_70 rfl rfl rfl rfl rfl rfl hM.1 ⟨Nat.le_of_ble_eq_true rfl, Nat.le_of_ble_eq_true rfl⟩ (Nat.le_of_ble_eq_true rfl) ?_
      refine x_wf (fun hw => ?_)
      refine x_if_neB 76 106 C dX12_allow_73 rfl (by decide) (fun h73 => ?_) (fun h73 => ?_)
      · skip
        replace h73 := of_decide_eq_true h73
        exact x_ret C dX12_allow_106 ⟨rfl, congrArg (wR G) (by first | rfl | (simp [bI, rAllR, rF, h73]; done) | (simp [bI, rAllR, rF, h73]; omega))⟩
      · skip
        replace h73 := of_decide_eq_false h73
        have hq : rAllIs R a w = true := by (by_cases q : rAllIs R a w = true; exact q; exact absurd (show 0 < rAllC R a w s1 t by simp [rAllC, q]) h73)
        have hx : 0 ≤ a ∧ a ≤ R 7 0 - 1 := by (simp only [rAllIs, rIsAddress, Bool.and_eq_true] at hq; exact rLies_t.mp hq.1)
        refine x_aload_n 77 C dX12_allow_76 rfl rfl ?_
        refine x_mrow 80 14 C fr_X12_38 dX12_allow_77 rfl rfl hM ?_
        refine x_iload_n 81 C dX12_allow_80 rfl rfl ?_
        refine x_iload_n 82 C dX12_allow_81 rfl rfl ?_
        refine x_mstI 83 14 C dX12_allow_82 rfl rfl hM ⟨by omega, Int.lt_of_lt_of_le (b := 24) (by omega) (by decide)⟩ (by first | exact hw.2.2.1 _ _ | exact hr0 _ _ | assumption | omega | exact ⟨by omega, by omega⟩) ?_
        refine x_wf (fun hw => ?_)
        refine x_aload_n 84 C dX12_allow_83 rfl rfl ?_
        refine x_mrow 87 15 C fr_X12_41 dX12_allow_84 rfl rfl hM ?_
        refine x_iload_n 88 C dX12_allow_87 rfl rfl ?_
        refine x_iload_n 89 C dX12_allow_88 rfl rfl ?_
        refine x_mstZ 90 15 C dX12_allow_89 rfl rfl hM ⟨by omega, Int.lt_of_lt_of_le (b := 24) (by omega) (by decide)⟩ (by first | assumption | omega | exact bI_01 _ | exact hw.2.2.2.2.1 _ _ rfl | exact hz0 _ _ rfl) ?_
        refine x_wf (fun hw => ?_)
        refine x_aload_n 91 C dX12_allow_90 rfl rfl ?_
        refine x_mrow 94 16 C fr_X12_44 dX12_allow_91 rfl rfl hM ?_
        refine x_iload_n 95 C dX12_allow_94 rfl rfl ?_
        refine x_iload 97 C dX12_allow_95 rfl rfl ?_
        refine x_mstI 98 16 C dX12_allow_97 rfl rfl hM ⟨by omega, Int.lt_of_lt_of_le (b := 24) (by omega) (by decide)⟩ (by first | exact hw.2.2.1 _ _ | exact hr0 _ _ | assumption | omega | exact ⟨by omega, by omega⟩) ?_
        refine x_wf (fun hw => ?_)
        refine x_aload_n 99 C dX12_allow_98 rfl rfl ?_
        refine x_mrow 102 17 C fr_X12_47 dX12_allow_99 rfl rfl hM ?_
        refine x_iload_n 103 C dX12_allow_102 rfl rfl ?_
        refine x_iload 105 C dX12_allow_103 rfl rfl ?_
        refine x_mstI 106 17 C dX12_allow_105 rfl rfl hM ⟨by omega, Int.lt_of_lt_of_le (b := 24) (by omega) (by decide)⟩ (by first | exact hw.2.2.1 _ _ | exact hr0 _ _ | assumption | omega | exact ⟨by omega, by omega⟩) ?_
        refine x_wf (fun hw => ?_)
        exact x_ret C dX12_allow_106 ⟨rfl, congrArg (wR G) (by first | rfl | (simp [bI, rAllR, rF, h73]; done) | (simp [bI, rAllR, rF, h73]; omega))⟩
    · skip
      refine x_iload 36 C dX12_allow_34 rfl rfl ?_
      refine x_if_neB 39 43 C dX12_allow_36 rfl (by decide) (fun h36 => ?_) (fun h36 => ?_)
      · skip
        refine x_iload 45 C dX12_allow_43 rfl rfl ?_
        refine x_iconst 46 C dX12_allow_45 rfl ?_
        refine x_iconst 47 C dX12_allow_46 rfl ?_
        refine x_Sr (As := [_, _, _]) 50 C vw_X12_168 tw_X12_lies (c_X12_lies (by first | assumption | omega) (by omega) (by omega)) dX12_allow_47 rfl rfl rfl ⟨Nat.le_of_ble_eq_true rfl, Nat.le_of_ble_eq_true rfl⟩ (Nat.le_of_ble_eq_true rfl) ?_
        refine x_if_eqB 53 69 C dX12_allow_50 rfl (by decide) (fun h50 => ?_) (fun h50 => ?_)
        · skip
          refine x_iconst 70 C dX12_allow_69 rfl ?_
          exact hJ70 _ (by first | (simp [bI, rAllC, h36, h50]; done) | (simp [bI, rAllC, h36, h50]; omega) | (simp [bI, rAllC, h36, h50] at *; omega))
        · skip
          refine x_iload 55 C dX12_allow_53 rfl rfl ?_
          refine x_iconst 56 C dX12_allow_55 rfl ?_
          refine x_sipush 59 C dX12_allow_56 rfl (by decide) ?_
          refine x_Sr (As := [_, _, _]) 62 C vw_X12_168 tw_X12_lies (c_X12_lies (by first | assumption | omega) (by omega) (by omega)) dX12_allow_59 rfl rfl rfl ⟨Nat.le_of_ble_eq_true rfl, Nat.le_of_ble_eq_true rfl⟩ (Nat.le_of_ble_eq_true rfl) ?_
          refine x_if_eqB 65 69 C dX12_allow_62 rfl (by decide) (fun h62 => ?_) (fun h62 => ?_)
          · skip
            refine x_iconst 70 C dX12_allow_69 rfl ?_
            exact hJ70 _ (by first | (simp [bI, rAllC, h36, h50, h62]; done) | (simp [bI, rAllC, h36, h50, h62]; omega) | (simp [bI, rAllC, h36, h50, h62] at *; omega))
          · skip
            refine x_iconst 66 C dX12_allow_65 rfl ?_
            refine x_goto 70 C dX12_allow_66 (by decide) ?_
            exact hJ70 _ (by first | (simp [bI, rAllC, h36, h50, h62]; done) | (simp [bI, rAllC, h36, h50, h62]; omega) | (simp [bI, rAllC, h36, h50, h62] at *; omega))
      · skip
        refine x_iconst 40 C dX12_allow_39 rfl ?_
        refine x_goto 70 C dX12_allow_40 (by decide) ?_
        exact hJ70 _ (by first | (simp [bI, rAllC, h36]; done) | (simp [bI, rAllC, h36]; omega) | (simp [bI, rAllC, h36] at *; omega))
  · skip
    refine x_aload_n 1 C dX12_allow_0 rfl rfl ?_
    refine x_iload_n 2 C dX12_allow_1 rfl rfl ?_
    refine x_Vr (As := [_]) 5 C vw_X12_203 iw_X12_isAddress sw_X12_isAddress (c_X12_isAddress hM (by assumption) hA) dX12_allow_2 rfl rfl rfl rfl rfl rfl hM.1 ⟨Nat.le_of_ble_eq_true rfl, Nat.le_of_ble_eq_true rfl⟩ (Nat.le_of_ble_eq_true rfl) ?_
    refine x_if_eqB 8 30 C dX12_allow_5 rfl (by decide) (fun h5 => ?_) (fun h5 => ?_)
    · skip
      refine x_iconst 31 C dX12_allow_30 rfl ?_
      exact hJ31 _ (by first | (simp [bI, rAllIs, h5]; done) | (simp [bI, rAllIs, h5]; omega) | (simp [bI, rAllIs, h5] at *; omega))
    · skip
      refine x_iload_n 9 C dX12_allow_8 rfl rfl ?_
      refine x_bipush 11 C dX12_allow_9 rfl (by decide) ?_
      refine x_iconst 12 C dX12_allow_11 rfl ?_
      refine x_Sr (As := [_, _, _]) 15 C vw_X12_168 tw_X12_lies (c_X12_lies (by first | assumption | omega) (by omega) (by omega)) dX12_allow_12 rfl rfl rfl ⟨Nat.le_of_ble_eq_true rfl, Nat.le_of_ble_eq_true rfl⟩ (Nat.le_of_ble_eq_true rfl) ?_
      refine x_if_neB 18 26 C dX12_allow_15 rfl (by decide) (fun h15 => ?_) (fun h15 => ?_)
      · skip
        refine x_iconst 27 C dX12_allow_26 rfl ?_
        refine x_goto 31 C dX12_allow_27 (by decide) ?_
        exact hJ31 _ (by first | (simp [bI, rAllIs, h5, h15]; done) | (simp [bI, rAllIs, h5, h15]; omega) | (simp [bI, rAllIs, h5, h15] at *; omega))
      · skip
        refine x_aload_n 19 C dX12_allow_18 rfl rfl ?_
        refine x_iload_n 20 C dX12_allow_19 rfl rfl ?_
        refine x_Vr (As := [_]) 23 C vw_X12_203 iw_X12_isAddress sw_X12_isAddress (c_X12_isAddress hM (by assumption) hA) dX12_allow_20 rfl rfl rfl rfl rfl rfl hM.1 ⟨Nat.le_of_ble_eq_true rfl, Nat.le_of_ble_eq_true rfl⟩ (Nat.le_of_ble_eq_true rfl) ?_
        refine x_if_eqB 26 30 C dX12_allow_23 rfl (by decide) (fun h23 => ?_) (fun h23 => ?_)
        · skip
          refine x_iconst 31 C dX12_allow_30 rfl ?_
          exact hJ31 _ (by first | (simp [bI, rAllIs, h5, h15, h23]; done) | (simp [bI, rAllIs, h5, h15, h23]; omega) | (simp [bI, rAllIs, h5, h15, h23] at *; omega))
        · skip
          refine x_iconst 27 C dX12_allow_26 rfl ?_
          refine x_goto 31 C dX12_allow_27 (by decide) ?_
          exact hJ31 _ (by first | (simp [bI, rAllIs, h5, h15, h23]; done) | (simp [bI, rAllIs, h5, h15, h23]; omega) | (simp [bI, rAllIs, h5, h15, h23] at *; omega))
set_option maxHeartbeats 4000000 in
set_option maxRecDepth 100000 in
theorem c_X12_setsCookie {E : EV} {l : Launch} {G : GT} {R : RT} {o : Nat} {a n v d w f t : Int} (hM : RM G o) (h1 : InR a) (h2 : InR n) (h3 : InR v) (h4 : InR d) (h5 : InR w) (h6 : InR f) (h7 : InR t) (hH : RH R) (hA : RA R) : MT E l yX12_setsCookie cX12_setsCookie 10 none 2 43 0 0 [.ref o, .int (i32 a), .int (i32 n), .int (i32 v), .int (i32 d), .int (i32 w), .int (i32 f), .int (i32 t)] (wR G R) (pD none (wR G (rSetR R a n v d w f t))) := by
  refine mt_of (own := RX12) (L := [some (.ref o), some (.int (i32 a)), some (.int (i32 n)), some (.int (i32 v)), some (.int (i32 d)), some (.int (i32 w)), some (.int (i32 f)), some (.int (i32 t)), none, none]) (by decide +kernel) rfl (Nat.le_of_ble_eq_true rfl) (List.forall_mem_cons.mpr ⟨rfl, (List.forall_mem_cons.mpr ⟨rfl, (List.forall_mem_cons.mpr ⟨rfl, (List.forall_mem_cons.mpr ⟨rfl, (List.forall_mem_cons.mpr ⟨rfl, (List.forall_mem_cons.mpr ⟨rfl, (List.forall_mem_cons.mpr ⟨rfl, (List.forall_mem_cons.mpr ⟨rfl, (fun _ h => absurd h List.not_mem_nil)⟩)⟩)⟩)⟩)⟩)⟩)⟩)⟩) rfl ?_
  intro p e s m args below meth c C hin
  refine x_wf (fun hw => ?_)
  have hr0 : ∀ k j, InR (R k j) := hw.2.2.1
  have hz0 : ∀ k j, mZ k = true → R k j = 0 ∨ R k j = 1 := hw.2.2.2.2.1
  have hh := hA.1
  have hh2 := hA.2
  have hc : 0 ≤ rSetC R a n v d w f t ∧ rSetC R a n v d w f t ≤ 3 := by unfold rSetC; (repeat (first | omega | split))
  refine x_joinv 28 (fun vJ => vJ = bI (rSetIs R a d)) ?_ (fun hJ28 => ?_)
  · intro vJ hJ
    subst hJ
    refine x_istore 30 C dX12_setsCookie_28 rfl rfl rfl ?_
    refine x_joinv 87 (fun vJ => vJ = bI (rSetOk n v w f t)) ?_ (fun hJ87 => ?_)
    · intro vJ hJ
      subst hJ
      refine x_istore 89 C dX12_setsCookie_87 rfl rfl rfl ?_
      refine x_aload_n 90 C dX12_setsCookie_89 rfl rfl ?_
      refine x_joinv 109 (fun vJ => vJ = rSetC R a n v d w f t) ?_ (fun hJ109 => ?_)
      · intro vJ hJ
        subst hJ
        refine x_Vr (As := [_]) 112 C vw_X12_187 iw_X12_fails sw_X12_fails (c_X12_fails hM (by first | assumption | omega | exact ⟨by omega, by omega⟩)) dX12_setsCookie_109 rfl rfl rfl rfl rfl rfl hM.1 ⟨Nat.le_of_ble_eq_true rfl, Nat.le_of_ble_eq_true rfl⟩ (Nat.le_of_ble_eq_true rfl) ?_
        refine x_wf (fun hw => ?_)
        refine x_if_neB 115 161 C dX12_setsCookie_112 rfl (by decide) (fun h112 => ?_) (fun h112 => ?_)
        · skip
          replace h112 := of_decide_eq_true h112
          exact x_ret C dX12_setsCookie_161 ⟨rfl, congrArg (wR G) (by first | rfl | (simp [bI, rSetR, rF, h112]; done) | (simp [bI, rSetR, rF, h112]; omega))⟩
        · skip
          replace h112 := of_decide_eq_false h112
          have hq : rSetIs R a d = true := by (by_cases q : rSetIs R a d = true; exact q; exact absurd (show 0 < rSetC R a n v d w f t by simp [rSetC, q]) h112)
          have hx : 0 ≤ a ∧ a ≤ R 7 0 - 1 := by (simp only [rSetIs, rIsAddress, Bool.and_eq_true] at hq; exact rLies_t.mp hq.1)
          refine x_aload_n 116 C dX12_setsCookie_115 rfl rfl ?_
          refine x_mrow 119 18 C fr_X12_50 dX12_setsCookie_116 rfl rfl hM ?_
          refine x_iload_n 120 C dX12_setsCookie_119 rfl rfl ?_
          refine x_iload_n 121 C dX12_setsCookie_120 rfl rfl ?_
          refine x_mstI 122 18 C dX12_setsCookie_121 rfl rfl hM ⟨by omega, Int.lt_of_lt_of_le (b := 24) (by omega) (by decide)⟩ (by first | exact hw.2.2.1 _ _ | exact hr0 _ _ | assumption | omega | exact ⟨by omega, by omega⟩) ?_
          refine x_wf (fun hw => ?_)
          refine x_aload_n 123 C dX12_setsCookie_122 rfl rfl ?_
          refine x_mrow 126 19 C fr_X12_53 dX12_setsCookie_123 rfl rfl hM ?_
          refine x_iload_n 127 C dX12_setsCookie_126 rfl rfl ?_
          refine x_iload_n 128 C dX12_setsCookie_127 rfl rfl ?_
          refine x_mstI 129 19 C dX12_setsCookie_128 rfl rfl hM ⟨by omega, Int.lt_of_lt_of_le (b := 24) (by omega) (by decide)⟩ (by first | exact hw.2.2.1 _ _ | exact hr0 _ _ | assumption | omega | exact ⟨by omega, by omega⟩) ?_
          refine x_wf (fun hw => ?_)
          refine x_aload_n 130 C dX12_setsCookie_129 rfl rfl ?_
          refine x_mrow 133 20 C fr_X12_56 dX12_setsCookie_130 rfl rfl hM ?_
          refine x_iload_n 134 C dX12_setsCookie_133 rfl rfl ?_
          refine x_iload 136 C dX12_setsCookie_134 rfl rfl ?_
          refine x_mstI 137 20 C dX12_setsCookie_136 rfl rfl hM ⟨by omega, Int.lt_of_lt_of_le (b := 24) (by omega) (by decide)⟩ (by first | exact hw.2.2.1 _ _ | exact hr0 _ _ | assumption | omega | exact ⟨by omega, by omega⟩) ?_
          refine x_wf (fun hw => ?_)
          refine x_aload_n 138 C dX12_setsCookie_137 rfl rfl ?_
          refine x_mrow 141 21 C fr_X12_59 dX12_setsCookie_138 rfl rfl hM ?_
          refine x_iload_n 142 C dX12_setsCookie_141 rfl rfl ?_
          refine x_iload 144 C dX12_setsCookie_142 rfl rfl ?_
          refine x_mstI 145 21 C dX12_setsCookie_144 rfl rfl hM ⟨by omega, Int.lt_of_lt_of_le (b := 24) (by omega) (by decide)⟩ (by first | exact hw.2.2.1 _ _ | exact hr0 _ _ | assumption | omega | exact ⟨by omega, by omega⟩) ?_
          refine x_wf (fun hw => ?_)
          refine x_aload_n 146 C dX12_setsCookie_145 rfl rfl ?_
          refine x_mrow 149 22 C fr_X12_62 dX12_setsCookie_146 rfl rfl hM ?_
          refine x_iload_n 150 C dX12_setsCookie_149 rfl rfl ?_
          refine x_iload 152 C dX12_setsCookie_150 rfl rfl ?_
          refine x_mstI 153 22 C dX12_setsCookie_152 rfl rfl hM ⟨by omega, Int.lt_of_lt_of_le (b := 24) (by omega) (by decide)⟩ (by first | exact hw.2.2.1 _ _ | exact hr0 _ _ | assumption | omega | exact ⟨by omega, by omega⟩) ?_
          refine x_wf (fun hw => ?_)
          refine x_aload_n 154 C dX12_setsCookie_153 rfl rfl ?_
          refine x_mrow 157 23 C fr_X12_65 dX12_setsCookie_154 rfl rfl hM ?_
          refine x_iload_n 158 C dX12_setsCookie_157 rfl rfl ?_
          refine x_iload 160 C dX12_setsCookie_158 rfl rfl ?_
          refine x_mstI 161 23 C dX12_setsCookie_160 rfl rfl hM ⟨by omega, Int.lt_of_lt_of_le (b := 24) (by omega) (by decide)⟩ (by first | exact hw.2.2.1 _ _ | exact hr0 _ _ | assumption | omega | exact ⟨by omega, by omega⟩) ?_
          refine x_wf (fun hw => ?_)
          exact x_ret C dX12_setsCookie_161 ⟨rfl, congrArg (wR G) (by first | rfl | (simp [bI, rSetR, rF, h112]; done) | (simp [bI, rSetR, rF, h112]; omega))⟩
      · skip
        refine x_iload 92 C dX12_setsCookie_90 rfl rfl ?_
        refine x_if_neB 95 99 C dX12_setsCookie_92 rfl (by decide) (fun h92 => ?_) (fun h92 => ?_)
        · skip
          refine x_iload 101 C dX12_setsCookie_99 rfl rfl ?_
          refine x_if_eqB 104 108 C dX12_setsCookie_101 rfl (by decide) (fun h101 => ?_) (fun h101 => ?_)
          · skip
            refine x_iconst 109 C dX12_setsCookie_108 rfl ?_
            exact hJ109 _ (by first | (simp [bI, rSetC, h92, h101]; done) | (simp [bI, rSetC, h92, h101]; omega) | (simp [bI, rSetC, h92, h101] at *; omega))
          · skip
            refine x_iconst 105 C dX12_setsCookie_104 rfl ?_
            refine x_goto 109 C dX12_setsCookie_105 (by decide) ?_
            exact hJ109 _ (by first | (simp [bI, rSetC, h92, h101]; done) | (simp [bI, rSetC, h92, h101]; omega) | (simp [bI, rSetC, h92, h101] at *; omega))
        · skip
          refine x_iconst 96 C dX12_setsCookie_95 rfl ?_
          refine x_goto 109 C dX12_setsCookie_96 (by decide) ?_
          exact hJ109 _ (by first | (simp [bI, rSetC, h92]; done) | (simp [bI, rSetC, h92]; omega) | (simp [bI, rSetC, h92] at *; omega))
    · skip
      refine x_iload_n 31 C dX12_setsCookie_30 rfl rfl ?_
      refine x_iconst 32 C dX12_setsCookie_31 rfl ?_
      refine x_bipush 34 C dX12_setsCookie_32 rfl (by decide) ?_
      refine x_Sr (As := [_, _, _]) 37 C vw_X12_168 tw_X12_lies (c_X12_lies (by first | assumption | omega) (by omega) (by omega)) dX12_setsCookie_34 rfl rfl rfl ⟨Nat.le_of_ble_eq_true rfl, Nat.le_of_ble_eq_true rfl⟩ (Nat.le_of_ble_eq_true rfl) ?_
      refine x_if_eqB 40 86 C dX12_setsCookie_37 rfl (by decide) (fun h37 => ?_) (fun h37 => ?_)
      · skip
        refine x_iconst 87 C dX12_setsCookie_86 rfl ?_
        exact hJ87 _ (by first | (simp [bI, rSetOk, h37]; done) | (simp [bI, rSetOk, h37]; omega) | (simp [bI, rSetOk, h37] at *; omega))
      · skip
        refine x_iload_n 41 C dX12_setsCookie_40 rfl rfl ?_
        refine x_iconst 42 C dX12_setsCookie_41 rfl ?_
        refine x_sipush 45 C dX12_setsCookie_42 rfl (by decide) ?_
        refine x_Sr (As := [_, _, _]) 48 C vw_X12_168 tw_X12_lies (c_X12_lies (by first | assumption | omega) (by omega) (by omega)) dX12_setsCookie_45 rfl rfl rfl ⟨Nat.le_of_ble_eq_true rfl, Nat.le_of_ble_eq_true rfl⟩ (Nat.le_of_ble_eq_true rfl) ?_
        refine x_if_eqB 51 86 C dX12_setsCookie_48 rfl (by decide) (fun h48 => ?_) (fun h48 => ?_)
        · skip
          refine x_iconst 87 C dX12_setsCookie_86 rfl ?_
          exact hJ87 _ (by first | (simp [bI, rSetOk, h37, h48]; done) | (simp [bI, rSetOk, h37, h48]; omega) | (simp [bI, rSetOk, h37, h48] at *; omega))
        · skip
          refine x_iload 53 C dX12_setsCookie_51 rfl rfl ?_
          refine x_Sr (As := [_]) 56 C vw_X12_197 tw_X12_isPath (c_X12_isPath (by first | assumption | omega)) dX12_setsCookie_53 rfl rfl rfl ⟨Nat.le_of_ble_eq_true rfl, Nat.le_of_ble_eq_true rfl⟩ (Nat.le_of_ble_eq_true rfl) ?_
          refine x_if_eqB 59 86 C dX12_setsCookie_56 rfl (by decide) (fun h56 => ?_) (fun h56 => ?_)
          · skip
            refine x_iconst 87 C dX12_setsCookie_86 rfl ?_
            exact hJ87 _ (by first | (simp [bI, rSetOk, h37, h48, h56]; done) | (simp [bI, rSetOk, h37, h48, h56]; omega) | (simp [bI, rSetOk, h37, h48, h56] at *; omega))
          · skip
            refine x_iload 61 C dX12_setsCookie_59 rfl rfl ?_
            refine x_iconst 62 C dX12_setsCookie_61 rfl ?_
            refine x_bipush 64 C dX12_setsCookie_62 rfl (by decide) ?_
            refine x_Sr (As := [_, _, _]) 67 C vw_X12_168 tw_X12_lies (c_X12_lies (by first | assumption | omega) (by omega) (by omega)) dX12_setsCookie_64 rfl rfl rfl ⟨Nat.le_of_ble_eq_true rfl, Nat.le_of_ble_eq_true rfl⟩ (Nat.le_of_ble_eq_true rfl) ?_
            refine x_if_eqB 70 86 C dX12_setsCookie_67 rfl (by decide) (fun h67 => ?_) (fun h67 => ?_)
            · skip
              refine x_iconst 87 C dX12_setsCookie_86 rfl ?_
              exact hJ87 _ (by first | (simp [bI, rSetOk, h37, h48, h56, h67]; done) | (simp [bI, rSetOk, h37, h48, h56, h67]; omega) | (simp [bI, rSetOk, h37, h48, h56, h67] at *; omega))
            · skip
              refine x_iload 72 C dX12_setsCookie_70 rfl rfl ?_
              refine x_iconst 73 C dX12_setsCookie_72 rfl ?_
              refine x_sipush 76 C dX12_setsCookie_73 rfl (by decide) ?_
              refine x_Sr (As := [_, _, _]) 79 C vw_X12_168 tw_X12_lies (c_X12_lies (by first | assumption | omega) (by omega) (by omega)) dX12_setsCookie_76 rfl rfl rfl ⟨Nat.le_of_ble_eq_true rfl, Nat.le_of_ble_eq_true rfl⟩ (Nat.le_of_ble_eq_true rfl) ?_
              refine x_if_eqB 82 86 C dX12_setsCookie_79 rfl (by decide) (fun h79 => ?_) (fun h79 => ?_)
              · skip
                refine x_iconst 87 C dX12_setsCookie_86 rfl ?_
                exact hJ87 _ (by first | (simp [bI, rSetOk, h37, h48, h56, h67, h79]; done) | (simp [bI, rSetOk, h37, h48, h56, h67, h79]; omega) | (simp [bI, rSetOk, h37, h48, h56, h67, h79] at *; omega))
              · skip
                refine x_iconst 83 C dX12_setsCookie_82 rfl ?_
                refine x_goto 87 C dX12_setsCookie_83 (by decide) ?_
                exact hJ87 _ (by first | (simp [bI, rSetOk, h37, h48, h56, h67, h79]; done) | (simp [bI, rSetOk, h37, h48, h56, h67, h79]; omega) | (simp [bI, rSetOk, h37, h48, h56, h67, h79] at *; omega))
  · skip
    refine x_aload_n 1 C dX12_setsCookie_0 rfl rfl ?_
    refine x_iload_n 2 C dX12_setsCookie_1 rfl rfl ?_
    refine x_Vr (As := [_]) 5 C vw_X12_203 iw_X12_isAddress sw_X12_isAddress (c_X12_isAddress hM (by assumption) hA) dX12_setsCookie_2 rfl rfl rfl rfl rfl rfl hM.1 ⟨Nat.le_of_ble_eq_true rfl, Nat.le_of_ble_eq_true rfl⟩ (Nat.le_of_ble_eq_true rfl) ?_
    refine x_if_eqB 8 27 C dX12_setsCookie_5 rfl (by decide) (fun h5 => ?_) (fun h5 => ?_)
    · skip
      refine x_iconst 28 C dX12_setsCookie_27 rfl ?_
      exact hJ28 _ (by first | (simp [bI, rSetIs, h5]; done) | (simp [bI, rSetIs, h5]; omega) | (simp [bI, rSetIs, h5] at *; omega))
    · skip
      refine x_iload 10 C dX12_setsCookie_8 rfl rfl ?_
      refine x_iconst 11 C dX12_setsCookie_10 rfl ?_
      refine x_icmp_eq 14 23 C dX12_setsCookie_11 rfl (by decide) (by first | exact hw.2.2.1 _ _ | exact hr0 _ _ | assumption | omega | exact ⟨by omega, by omega⟩) (by first | exact hw.2.2.1 _ _ | exact hr0 _ _ | assumption | omega | exact ⟨by omega, by omega⟩) (fun h11 => ?_) (fun h11 => ?_)
      · skip
        refine x_iconst 24 C dX12_setsCookie_23 rfl ?_
        refine x_goto 28 C dX12_setsCookie_24 (by decide) ?_
        exact hJ28 _ (by first | (simp [bI, rSetIs, h5, h11]; done) | (simp [bI, rSetIs, h5, h11]; omega) | (simp [bI, rSetIs, h5, h11] at *; omega))
      · skip
        refine x_aload_n 15 C dX12_setsCookie_14 rfl rfl ?_
        refine x_iload 17 C dX12_setsCookie_15 rfl rfl ?_
        refine x_Vr (As := [_]) 20 C vw_X12_175 iw_X12_isHost sw_X12_isHost (c_X12_isHost hM (by assumption) hH) dX12_setsCookie_17 rfl rfl rfl rfl rfl rfl hM.1 ⟨Nat.le_of_ble_eq_true rfl, Nat.le_of_ble_eq_true rfl⟩ (Nat.le_of_ble_eq_true rfl) ?_
        refine x_if_eqB 23 27 C dX12_setsCookie_20 rfl (by decide) (fun h20 => ?_) (fun h20 => ?_)
        · skip
          refine x_iconst 28 C dX12_setsCookie_27 rfl ?_
          exact hJ28 _ (by first | (simp [bI, rSetIs, h5, h11, h20]; done) | (simp [bI, rSetIs, h5, h11, h20]; omega) | (simp [bI, rSetIs, h5, h11, h20] at *; omega))
        · skip
          refine x_iconst 24 C dX12_setsCookie_23 rfl ?_
          refine x_goto 28 C dX12_setsCookie_24 (by decide) ?_
          exact hJ28 _ (by first | (simp [bI, rSetIs, h5, h11, h20]; done) | (simp [bI, rSetIs, h5, h11, h20]; omega) | (simp [bI, rSetIs, h5, h11, h20] at *; omega))
set_option maxHeartbeats 4000000 in
set_option maxRecDepth 100000 in
theorem c_X12_toggleBlocking {E : EV} {l : Launch} {G : GT} {R : RT} {o : Nat} (hM : RM G o)  : MT E l yX12_toggleBlocking cX12_toggleBlocking 1 (some .boolean) 0 0 0 0 [.ref o] (wR G R) (pD (some (.int (i32 (if R 2 0 = 0 then 1 else 0)))) (wR G (rTogBR R))) := by
  refine mt_of (own := RX12) (L := [some (.ref o)]) (by decide +kernel) rfl (Nat.le_of_ble_eq_true rfl) (List.forall_mem_cons.mpr ⟨rfl, (fun _ h => absurd h List.not_mem_nil)⟩) rfl ?_
  intro p e s m args below meth c C hin
  refine x_wf (fun hw => ?_)
  have hr0 : ∀ k j, InR (R k j) := hw.2.2.1
  have hz0 : ∀ k j, mZ k = true → R k j = 0 ∨ R k j = 1 := hw.2.2.2.2.1
  refine x_aload_n 1 C dX12_toggleBlocking_0 rfl rfl ?_
  refine x_iconst 2 C dX12_toggleBlocking_1 rfl ?_
  refine x_mput 5 71 C fw_X12_161 dX12_toggleBlocking_2 rfl rfl rfl hM (by first | exact hw.2.2.1 _ _ | exact hr0 _ _ | assumption | omega | exact ⟨by omega, by omega⟩) (fun z => absurd z (by decide)) ?_
  refine x_wf (fun hw => ?_)
  refine x_aload_n 6 C dX12_toggleBlocking_5 rfl rfl ?_
  refine x_joinv 18 (fun vJ => vJ = if R 2 0 = 0 then 1 else 0) ?_ (fun hJ18 => ?_)
  · intro vJ hJ
    subst hJ
    refine x_mput 21 2 C fw_X12_225 dX12_toggleBlocking_18 rfl rfl rfl hM (by first | exact hw.2.2.1 _ _ | exact hr0 _ _ | assumption | omega | exact ⟨by omega, by omega⟩) (fun _ => (by split <;> omega)) ?_
    refine x_wf (fun hw => ?_)
    refine x_aload_n 22 C dX12_toggleBlocking_21 rfl rfl ?_
    refine x_mget 25 2 C fr_X12_225 dX12_toggleBlocking_22 rfl rfl hM ?_
    (try simp only [u2r, false_and, and_false, true_and, and_true, ↓reduceIte, Nat.reduceEqDiff])
    (try simp only [u2r, and_self, ↓reduceIte])
    exact x_iret C dX12_toggleBlocking_25 (nar_01 (by split <;> omega)) ⟨vi (rfl), congrArg (wR G) (by first | rfl | (simp [bI, rTogBR, rF]; done) | (simp [bI, rTogBR, rF]; omega))⟩
  · skip
    refine x_aload_n 7 C dX12_toggleBlocking_6 rfl rfl ?_
    refine x_mget 10 2 C fr_X12_225 dX12_toggleBlocking_7 rfl rfl hM ?_
    (try simp only [u2r, false_and, and_false, true_and, and_true, ↓reduceIte, Nat.reduceEqDiff])
    refine x_if_ne 13 17 C dX12_toggleBlocking_10 rfl (by decide) (by first | exact hw.2.2.1 _ _ | exact hr0 _ _ | assumption | omega | exact ⟨by omega, by omega⟩) (fun h10 => ?_) (fun h10 => ?_)
    · skip
      refine x_iconst 18 C dX12_toggleBlocking_17 rfl ?_
      exact hJ18 _ (by first | (simp [bI, h10]; done) | (simp [bI, h10]; omega) | (simp [bI, h10] at *; omega))
    · skip
      refine x_iconst 14 C dX12_toggleBlocking_13 rfl ?_
      refine x_goto 18 C dX12_toggleBlocking_14 (by decide) ?_
      exact hJ18 _ (by first | (simp [bI, h10]; done) | (simp [bI, h10]; omega) | (simp [bI, h10] at *; omega))
set_option maxHeartbeats 4000000 in
set_option maxRecDepth 100000 in
theorem c_X12_isPage {E : EV} {l : Launch} {G : GT} {R : RT} {o : Nat} {x : Int} (hM : RM G o) (h1 : InR x) (hP : RP R) : MT E l yX12_isPage cX12_isPage 2 (some .boolean) 1 22 0 0 [.ref o, .int (i32 x)] (wR G R) (pD (some (.int (i32 (bI (rIsPage R x))))) (wR G (R))) := by
  refine mt_of (own := RX12) (L := [some (.ref o), some (.int (i32 x))]) (by decide +kernel) rfl (Nat.le_of_ble_eq_true rfl) (List.forall_mem_cons.mpr ⟨rfl, (List.forall_mem_cons.mpr ⟨rfl, (fun _ h => absurd h List.not_mem_nil)⟩)⟩) rfl ?_
  intro p e s m args below meth c C hin
  refine x_wf (fun hw => ?_)
  have hr0 : ∀ k j, InR (R k j) := hw.2.2.1
  have hz0 : ∀ k j, mZ k = true → R k j = 0 ∨ R k j = 1 := hw.2.2.2.2.1
  have hh := hP.1
  refine x_iload_n 1 C dX12_isPage_0 rfl rfl ?_
  refine x_iconst 2 C dX12_isPage_1 rfl ?_
  refine x_aload_n 3 C dX12_isPage_2 rfl rfl ?_
  refine x_mget 6 24 C fr_X12_229 dX12_isPage_3 rfl rfl hM ?_
  refine x_iconst 7 C dX12_isPage_6 rfl ?_
  refine x_isub 8 C dX12_isPage_7 rfl ?_
  refine x_Sr (As := [_, _, _]) 11 C vw_X12_168 tw_X12_lies (c_X12_lies (by first | assumption | omega) (by omega) (by omega)) dX12_isPage_8 rfl rfl rfl ⟨Nat.le_of_ble_eq_true rfl, Nat.le_of_ble_eq_true rfl⟩ (Nat.le_of_ble_eq_true rfl) ?_
  exact x_iret C dX12_isPage_11 (by first | rfl | exact nar_b _ | exact nar_01 (by first | assumption | omega | exact hw.2.2.2.2.1 _ _ rfl | exact hz0 _ _ rfl)) ⟨vi (rfl), rfl⟩
set_option maxHeartbeats 4000000 in
set_option maxRecDepth 100000 in
theorem c_X12_page {E : EV} {l : Launch} {G : GT} {R : RT} {o : Nat} {a b c1 : Int} (hM : RM G o) (h1 : InR a) (h2 : InR b) (h3 : InR c1) (hA : RA R) (hP : RP R) : MT E l yX12_page cX12_page 5 (some .int) 2 43 0 0 [.ref o, .int (i32 a), .int (i32 b), .int (i32 c1)] (wR G R) (pD (some (.int (i32 (rPage R a b c1)))) (wR G (rPageR R a b c1))) := by
  refine mt_of (own := RX12) (L := [some (.ref o), some (.int (i32 a)), some (.int (i32 b)), some (.int (i32 c1)), none]) (by decide +kernel) rfl (Nat.le_of_ble_eq_true rfl) (List.forall_mem_cons.mpr ⟨rfl, (List.forall_mem_cons.mpr ⟨rfl, (List.forall_mem_cons.mpr ⟨rfl, (List.forall_mem_cons.mpr ⟨rfl, (fun _ h => absurd h List.not_mem_nil)⟩)⟩)⟩)⟩) rfl ?_
  intro p e s m args below meth c C hin
  refine x_wf (fun hw => ?_)
  have hr0 : ∀ k j, InR (R k j) := hw.2.2.1
  have hz0 : ∀ k j, mZ k = true → R k j = 0 ∨ R k j = 1 := hw.2.2.2.2.1
  have hh := hA.1
  have hh2 := hA.2
  have hh3 := hP.1
  have hc : 0 ≤ rPageC R a b c1 ∧ rPageC R a b c1 ≤ 3 := by unfold rPageC; (repeat (first | omega | split))
  refine x_joinv 26 (fun vJ => vJ = bI (rPageIs R a b)) ?_ (fun hJ26 => ?_)
  · intro vJ hJ
    subst hJ
    refine x_istore 28 C dX12_page_26 rfl rfl rfl ?_
    refine x_aload_n 29 C dX12_page_28 rfl rfl ?_
    refine x_joinv 65 (fun vJ => vJ = rPageC R a b c1) ?_ (fun hJ65 => ?_)
    · intro vJ hJ
      subst hJ
      refine x_Vr (As := [_]) 68 C vw_X12_187 iw_X12_fails sw_X12_fails (c_X12_fails hM (by first | assumption | omega | exact ⟨by omega, by omega⟩)) dX12_page_65 rfl rfl rfl rfl rfl rfl hM.1 ⟨Nat.le_of_ble_eq_true rfl, Nat.le_of_ble_eq_true rfl⟩ (Nat.le_of_ble_eq_true rfl) ?_
      refine x_wf (fun hw => ?_)
      refine x_if_eqB 71 73 C dX12_page_68 rfl (by decide) (fun h68 => ?_) (fun h68 => ?_)
      · skip
        replace h68 := of_decide_eq_false h68
        have h8 : ¬ R 24 0 = 8 := fun z => absurd (show 0 < rPageC R a b c1 by (unfold rPageC; (repeat (first | omega | split)))) h68
        refine x_aload_n 74 C dX12_page_73 rfl rfl ?_
        refine x_mrow 77 25 C fr_X12_68 dX12_page_74 rfl rfl hM ?_
        refine x_aload_n 78 C dX12_page_77 rfl rfl ?_
        refine x_mget 81 24 C fr_X12_229 dX12_page_78 rfl rfl hM ?_
        (try simp only [u2r, false_and, and_false, true_and, and_true, ↓reduceIte, Nat.reduceEqDiff])
        refine x_iload_n 82 C dX12_page_81 rfl rfl ?_
        refine x_mstI 83 25 C dX12_page_82 rfl rfl hM ⟨by omega, Int.lt_of_lt_of_le (b := 8) (by omega) (by decide)⟩ (by first | exact hw.2.2.1 _ _ | exact hr0 _ _ | assumption | omega | exact ⟨by omega, by omega⟩) ?_
        refine x_wf (fun hw => ?_)
        refine x_aload_n 84 C dX12_page_83 rfl rfl ?_
        refine x_mrow 87 26 C fr_X12_71 dX12_page_84 rfl rfl hM ?_
        refine x_aload_n 88 C dX12_page_87 rfl rfl ?_
        refine x_mget 91 24 C fr_X12_229 dX12_page_88 rfl rfl hM ?_
        (try simp only [u2r, false_and, and_false, true_and, and_true, ↓reduceIte, Nat.reduceEqDiff])
        refine x_iload_n 92 C dX12_page_91 rfl rfl ?_
        refine x_mstI 93 26 C dX12_page_92 rfl rfl hM ⟨by omega, Int.lt_of_lt_of_le (b := 8) (by omega) (by decide)⟩ (by first | exact hw.2.2.1 _ _ | exact hr0 _ _ | assumption | omega | exact ⟨by omega, by omega⟩) ?_
        refine x_wf (fun hw => ?_)
        refine x_aload_n 94 C dX12_page_93 rfl rfl ?_
        refine x_mrow 97 27 C fr_X12_74 dX12_page_94 rfl rfl hM ?_
        refine x_aload_n 98 C dX12_page_97 rfl rfl ?_
        refine x_mget 101 24 C fr_X12_229 dX12_page_98 rfl rfl hM ?_
        (try simp only [u2r, false_and, and_false, true_and, and_true, ↓reduceIte, Nat.reduceEqDiff])
        refine x_iload_n 102 C dX12_page_101 rfl rfl ?_
        refine x_mstI 103 27 C dX12_page_102 rfl rfl hM ⟨by omega, Int.lt_of_lt_of_le (b := 8) (by omega) (by decide)⟩ (by first | exact hw.2.2.1 _ _ | exact hr0 _ _ | assumption | omega | exact ⟨by omega, by omega⟩) ?_
        refine x_wf (fun hw => ?_)
        refine x_aload_n 104 C dX12_page_103 rfl rfl ?_
        refine x_dup 105 C dX12_page_104 rfl rfl ?_
        refine x_mget 108 24 C fr_X12_229 dX12_page_105 rfl rfl hM ?_
        (try simp only [u2r, false_and, and_false, true_and, and_true, ↓reduceIte, Nat.reduceEqDiff])
        refine x_iconst 109 C dX12_page_108 rfl ?_
        refine x_iadd 110 C dX12_page_109 rfl ?_
        refine x_mput 113 24 C fw_X12_229 dX12_page_110 rfl rfl rfl hM (by first | exact hw.2.2.1 _ _ | exact hr0 _ _ | assumption | omega | exact ⟨by omega, by omega⟩) (fun z => absurd z (by decide)) ?_
        refine x_wf (fun hw => ?_)
        refine x_aload_n 114 C dX12_page_113 rfl rfl ?_
        refine x_mget 117 24 C fr_X12_229 dX12_page_114 rfl rfl hM ?_
        (try simp only [u2r, false_and, and_false, true_and, and_true, ↓reduceIte, Nat.reduceEqDiff])
        refine x_iconst 118 C dX12_page_117 rfl ?_
        refine x_isub 119 C dX12_page_118 rfl ?_
        exact x_iret C dX12_page_119 rfl ⟨vi (by first | rfl | (simp [bI, rPage, h68]; done) | (simp [bI, rPage, h68]; omega)), congrArg (wR G) (by first | rfl | (simp [bI, rPageR, rF, h68]; done) | (simp [bI, rPageR, rF, h68]; omega))⟩
      · skip
        replace h68 := of_decide_eq_true h68
        refine x_iconst 72 C dX12_page_71 rfl ?_
        exact x_iret C dX12_page_72 rfl ⟨vi (by first | rfl | (simp [bI, rPage, h68]; done) | (simp [bI, rPage, h68]; omega)), congrArg (wR G) (by first | rfl | (simp [bI, rPageR, rF, h68]; done) | (simp [bI, rPageR, rF, h68]; omega))⟩
    · skip
      refine x_iload 31 C dX12_page_29 rfl rfl ?_
      refine x_if_neB 34 38 C dX12_page_31 rfl (by decide) (fun h31 => ?_) (fun h31 => ?_)
      · skip
        refine x_iload_n 39 C dX12_page_38 rfl rfl ?_
        refine x_iconst 40 C dX12_page_39 rfl ?_
        refine x_iconst 41 C dX12_page_40 rfl ?_
        refine x_Sr (As := [_, _, _]) 44 C vw_X12_168 tw_X12_lies (c_X12_lies (by first | assumption | omega) (by omega) (by omega)) dX12_page_41 rfl rfl rfl ⟨Nat.le_of_ble_eq_true rfl, Nat.le_of_ble_eq_true rfl⟩ (Nat.le_of_ble_eq_true rfl) ?_
        refine x_if_neB 47 51 C dX12_page_44 rfl (by decide) (fun h44 => ?_) (fun h44 => ?_)
        · skip
          refine x_aload_n 52 C dX12_page_51 rfl rfl ?_
          refine x_mget 55 24 C fr_X12_229 dX12_page_52 rfl rfl hM ?_
          refine x_bipush 57 C dX12_page_55 rfl (by decide) ?_
          refine x_icmp_ne 60 64 C dX12_page_57 rfl (by decide) (by first | exact hw.2.2.1 _ _ | exact hr0 _ _ | assumption | omega | exact ⟨by omega, by omega⟩) (by first | exact hw.2.2.1 _ _ | exact hr0 _ _ | assumption | omega | exact ⟨by omega, by omega⟩) (fun h57 => ?_) (fun h57 => ?_)
          · skip
            refine x_iconst 65 C dX12_page_64 rfl ?_
            exact hJ65 _ (by first | (simp [bI, rPageC, h31, h44, h57]; done) | (simp [bI, rPageC, h31, h44, h57]; omega) | (simp [bI, rPageC, h31, h44, h57] at *; omega))
          · skip
            refine x_iconst 61 C dX12_page_60 rfl ?_
            refine x_goto 65 C dX12_page_61 (by decide) ?_
            exact hJ65 _ (by first | (simp [bI, rPageC, h31, h44, h57]; done) | (simp [bI, rPageC, h31, h44, h57]; omega) | (simp [bI, rPageC, h31, h44, h57] at *; omega))
        · skip
          refine x_iconst 48 C dX12_page_47 rfl ?_
          refine x_goto 65 C dX12_page_48 (by decide) ?_
          exact hJ65 _ (by first | (simp [bI, rPageC, h31, h44]; done) | (simp [bI, rPageC, h31, h44]; omega) | (simp [bI, rPageC, h31, h44] at *; omega))
      · skip
        refine x_iconst 35 C dX12_page_34 rfl ?_
        refine x_goto 65 C dX12_page_35 (by decide) ?_
        exact hJ65 _ (by first | (simp [bI, rPageC, h31]; done) | (simp [bI, rPageC, h31]; omega) | (simp [bI, rPageC, h31] at *; omega))
  · skip
    refine x_aload_n 1 C dX12_page_0 rfl rfl ?_
    refine x_iload_n 2 C dX12_page_1 rfl rfl ?_
    refine x_Vr (As := [_]) 5 C vw_X12_203 iw_X12_isAddress sw_X12_isAddress (c_X12_isAddress hM (by assumption) hA) dX12_page_2 rfl rfl rfl rfl rfl rfl hM.1 ⟨Nat.le_of_ble_eq_true rfl, Nat.le_of_ble_eq_true rfl⟩ (Nat.le_of_ble_eq_true rfl) ?_
    refine x_if_eqB 8 25 C dX12_page_5 rfl (by decide) (fun h5 => ?_) (fun h5 => ?_)
    · skip
      refine x_iconst 26 C dX12_page_25 rfl ?_
      exact hJ26 _ (by first | (simp [bI, rPageIs, h5]; done) | (simp [bI, rPageIs, h5]; omega) | (simp [bI, rPageIs, h5] at *; omega))
    · skip
      refine x_iload_n 9 C dX12_page_8 rfl rfl ?_
      refine x_iconst 10 C dX12_page_9 rfl ?_
      refine x_icmp_eq 13 21 C dX12_page_10 rfl (by decide) (by first | exact hw.2.2.1 _ _ | exact hr0 _ _ | assumption | omega | exact ⟨by omega, by omega⟩) (by first | exact hw.2.2.1 _ _ | exact hr0 _ _ | assumption | omega | exact ⟨by omega, by omega⟩) (fun h10 => ?_) (fun h10 => ?_)
      · skip
        refine x_iconst 22 C dX12_page_21 rfl ?_
        refine x_goto 26 C dX12_page_22 (by decide) ?_
        exact hJ26 _ (by first | (simp [bI, rPageIs, h5, h10]; done) | (simp [bI, rPageIs, h5, h10]; omega) | (simp [bI, rPageIs, h5, h10] at *; omega))
      · skip
        refine x_aload_n 14 C dX12_page_13 rfl rfl ?_
        refine x_iload_n 15 C dX12_page_14 rfl rfl ?_
        refine x_Vr (As := [_]) 18 C vw_X12_232 iw_X12_isPage sw_X12_isPage (c_X12_isPage hM (by assumption) hP) dX12_page_15 rfl rfl rfl rfl rfl rfl hM.1 ⟨Nat.le_of_ble_eq_true rfl, Nat.le_of_ble_eq_true rfl⟩ (Nat.le_of_ble_eq_true rfl) ?_
        refine x_if_eqB 21 25 C dX12_page_18 rfl (by decide) (fun h18 => ?_) (fun h18 => ?_)
        · skip
          refine x_iconst 26 C dX12_page_25 rfl ?_
          exact hJ26 _ (by first | (simp [bI, rPageIs, h5, h10, h18]; done) | (simp [bI, rPageIs, h5, h10, h18]; omega) | (simp [bI, rPageIs, h5, h10, h18] at *; omega))
        · skip
          refine x_iconst 22 C dX12_page_21 rfl ?_
          refine x_goto 26 C dX12_page_22 (by decide) ?_
          exact hJ26 _ (by first | (simp [bI, rPageIs, h5, h10, h18]; done) | (simp [bI, rPageIs, h5, h10, h18]; omega) | (simp [bI, rPageIs, h5, h10, h18] at *; omega))
set_option maxHeartbeats 4000000 in
set_option maxRecDepth 100000 in
theorem c_X12_place {E : EV} {l : Launch} {G : GT} {R : RT} {o : Nat} {a : Int} (hM : RM G o) (hH : RH R) (hA : RA R) (hD : RAd R) (h1 : 0 ≤ a ∧ a < R 7 0) : MT E l yX12_place cX12_place 2 (some .int) 1 22 0 0 [.ref o, .int (i32 a)] (wR G R) (pD (some (.int (i32 (rPlace R a)))) (wR G (R))) := by
  refine mt_of (own := RX12) (L := [some (.ref o), some (.int (i32 a))]) (by decide +kernel) rfl (Nat.le_of_ble_eq_true rfl) (List.forall_mem_cons.mpr ⟨rfl, (List.forall_mem_cons.mpr ⟨rfl, (fun _ h => absurd h List.not_mem_nil)⟩)⟩) rfl ?_
  intro p e s m args below meth c C hin
  refine x_wf (fun hw => ?_)
  have hr0 : ∀ k j, InR (R k j) := hw.2.2.1
  have hz0 : ∀ k j, mZ k = true → R k j = 0 ∨ R k j = 1 := hw.2.2.2.2.1
  have hh := hA.1
  have hh2 := hA.2
  have hd := hD a.toNat (by omega)
  obtain ⟨d1, d2, -⟩ := hd
  refine x_bipush 2 C dX12_place_0 rfl (by decide) ?_
  refine x_aload_n 3 C dX12_place_2 rfl rfl ?_
  refine x_mrow 6 8 C fr_X12_20 dX12_place_3 rfl rfl hM ?_
  refine x_iload_n 7 C dX12_place_6 rfl rfl ?_
  refine x_mldI 8 8 C dX12_place_7 rfl rfl hM (by first | exact hIx | exact ⟨by omega, Int.lt_of_lt_of_le (b := 24) (by omega) (by decide)⟩) ?_
  refine x_imul 9 C dX12_place_8 rfl ?_
  refine x_aload_n 10 C dX12_place_9 rfl rfl ?_
  refine x_aload_n 11 C dX12_place_10 rfl rfl ?_
  refine x_mrow 14 9 C fr_X12_23 dX12_place_11 rfl rfl hM ?_
  refine x_iload_n 15 C dX12_place_14 rfl rfl ?_
  refine x_mldI 16 9 C dX12_place_15 rfl rfl hM (by first | exact hIx | exact ⟨by omega, Int.lt_of_lt_of_le (b := 24) (by omega) (by decide)⟩) ?_
  refine x_Vr (As := [_]) 19 C vw_X12_190 iw_X12_siteOf sw_X12_siteOf (c_X12_siteOf hM hH (by omega)) dX12_place_16 rfl rfl rfl rfl rfl rfl hM.1 ⟨Nat.le_of_ble_eq_true rfl, Nat.le_of_ble_eq_true rfl⟩ (Nat.le_of_ble_eq_true rfl) ?_
  refine x_iadd 20 C dX12_place_19 rfl ?_
  exact x_iret C dX12_place_20 rfl ⟨vi (rfl), rfl⟩
set_option maxHeartbeats 4000000 in
set_option maxRecDepth 100000 in
theorem c_X12_gate {E : EV} {l : Launch} {G : GT} {R : RT} {o : Nat} {a : Int} (hM : RM G o) (hA : RA R) (h1 : 0 ≤ a ∧ a < R 7 0) : MT E l yX12_gate cX12_gate 2 (some .int) 0 0 0 0 [.ref o, .int (i32 a)] (wR G R) (pD (some (.int (i32 (rGate R a)))) (wR G (R))) := by
  refine mt_of (own := RX12) (L := [some (.ref o), some (.int (i32 a))]) (by decide +kernel) rfl (Nat.le_of_ble_eq_true rfl) (List.forall_mem_cons.mpr ⟨rfl, (List.forall_mem_cons.mpr ⟨rfl, (fun _ h => absurd h List.not_mem_nil)⟩)⟩) rfl ?_
  intro p e s m args below meth c C hin
  refine x_wf (fun hw => ?_)
  have hr0 : ∀ k j, InR (R k j) := hw.2.2.1
  have hz0 : ∀ k j, mZ k = true → R k j = 0 ∨ R k j = 1 := hw.2.2.2.2.1
  have hh := hA.1
  have hh2 := hA.2
  refine x_aload_n 1 C dX12_gate_0 rfl rfl ?_
  refine x_mrow 4 10 C fr_X12_26 dX12_gate_1 rfl rfl hM ?_
  refine x_iload_n 5 C dX12_gate_4 rfl rfl ?_
  refine x_mldI 6 10 C dX12_gate_5 rfl rfl hM (by first | exact hIx | exact ⟨by omega, Int.lt_of_lt_of_le (b := 24) (by omega) (by decide)⟩) ?_
  refine x_if_le 9 18 C dX12_gate_6 rfl (by decide) (by first | exact hw.2.2.1 _ _ | exact hr0 _ _ | assumption | omega | exact ⟨by omega, by omega⟩) (fun h6 => ?_) (fun h6 => ?_)
  · skip
    refine x_aload_n 19 C dX12_gate_18 rfl rfl ?_
    refine x_mrow 22 8 C fr_X12_20 dX12_gate_19 rfl rfl hM ?_
    refine x_iload_n 23 C dX12_gate_22 rfl rfl ?_
    refine x_mldI 24 8 C dX12_gate_23 rfl rfl hM (by first | exact hIx | exact ⟨by omega, Int.lt_of_lt_of_le (b := 24) (by omega) (by decide)⟩) ?_
    refine x_iconst 25 C dX12_gate_24 rfl ?_
    refine x_icmp_ne 28 34 C dX12_gate_25 rfl (by decide) (by first | exact hw.2.2.1 _ _ | exact hr0 _ _ | assumption | omega | exact ⟨by omega, by omega⟩) (by first | exact hw.2.2.1 _ _ | exact hr0 _ _ | assumption | omega | exact ⟨by omega, by omega⟩) (fun h25 => ?_) (fun h25 => ?_)
    · skip
      refine x_bipush 36 C dX12_gate_34 rfl (by decide) ?_
      exact x_iret C dX12_gate_36 rfl ⟨vi (by first | rfl | (simp [bI, rGate, h6, h25]; done) | (simp [bI, rGate, h6, h25]; omega)), rfl⟩
    · skip
      refine x_sipush 31 C dX12_gate_28 rfl (by decide) ?_
      refine x_goto 36 C dX12_gate_31 (by decide) ?_
      exact x_iret C dX12_gate_36 rfl ⟨vi (by first | rfl | (simp [bI, rGate, h6, h25]; done) | (simp [bI, rGate, h6, h25]; omega)), rfl⟩
  · skip
    refine x_aload_n 10 C dX12_gate_9 rfl rfl ?_
    refine x_mrow 13 10 C fr_X12_26 dX12_gate_10 rfl rfl hM ?_
    refine x_iload_n 14 C dX12_gate_13 rfl rfl ?_
    refine x_mldI 15 10 C dX12_gate_14 rfl rfl hM (by first | exact hIx | exact ⟨by omega, Int.lt_of_lt_of_le (b := 24) (by omega) (by decide)⟩) ?_
    refine x_goto 36 C dX12_gate_15 (by decide) ?_
    exact x_iret C dX12_gate_36 rfl ⟨vi (by first | rfl | (simp [bI, rGate, h6]; done) | (simp [bI, rGate, h6]; omega)), rfl⟩
set_option maxHeartbeats 4000000 in
set_option maxRecDepth 100000 in
theorem c_X12_isSame {E : EV} {l : Launch} {G : GT} {R : RT} {o : Nat} {a b : Int} (hM : RM G o) (hA : RA R) (hD : RAd R) (h1 : 0 ≤ a ∧ a < R 7 0) (h2 : 0 ≤ b ∧ b < R 7 0) : MT E l yX12_isSame cX12_isSame 3 (some .boolean) 1 21 0 0 [.ref o, .int (i32 a), .int (i32 b)] (wR G R) (pD (some (.int (i32 (bI (rSame R a b))))) (wR G (R))) := by
  refine mt_of (own := RX12) (L := [some (.ref o), some (.int (i32 a)), some (.int (i32 b))]) (by decide +kernel) rfl (Nat.le_of_ble_eq_true rfl) (List.forall_mem_cons.mpr ⟨rfl, (List.forall_mem_cons.mpr ⟨rfl, (List.forall_mem_cons.mpr ⟨rfl, (fun _ h => absurd h List.not_mem_nil)⟩)⟩)⟩) rfl ?_
  intro p e s m args below meth c C hin
  refine x_wf (fun hw => ?_)
  have hr0 : ∀ k j, InR (R k j) := hw.2.2.1
  have hz0 : ∀ k j, mZ k = true → R k j = 0 ∨ R k j = 1 := hw.2.2.2.2.1
  have hh := hA.1
  have hh2 := hA.2
  have g1 := rGate_in hD h1.1 h1.2
  have g2 := rGate_in hD h2.1 h2.2
  refine x_aload_n 1 C dX12_isSame_0 rfl rfl ?_
  refine x_mrow 4 8 C fr_X12_20 dX12_isSame_1 rfl rfl hM ?_
  refine x_iload_n 5 C dX12_isSame_4 rfl rfl ?_
  refine x_mldI 6 8 C dX12_isSame_5 rfl rfl hM (by first | exact hIx | exact ⟨by omega, Int.lt_of_lt_of_le (b := 24) (by omega) (by decide)⟩) ?_
  refine x_aload_n 7 C dX12_isSame_6 rfl rfl ?_
  refine x_mrow 10 8 C fr_X12_20 dX12_isSame_7 rfl rfl hM ?_
  refine x_iload_n 11 C dX12_isSame_10 rfl rfl ?_
  refine x_mldI 12 8 C dX12_isSame_11 rfl rfl hM (by first | exact hIx | exact ⟨by omega, Int.lt_of_lt_of_le (b := 24) (by omega) (by decide)⟩) ?_
  refine x_icmp_ne 15 47 C dX12_isSame_12 rfl (by decide) (by first | exact hw.2.2.1 _ _ | exact hr0 _ _ | assumption | omega | exact ⟨by omega, by omega⟩) (by first | exact hw.2.2.1 _ _ | exact hr0 _ _ | assumption | omega | exact ⟨by omega, by omega⟩) (fun h12 => ?_) (fun h12 => ?_)
  · skip
    refine x_iconst 48 C dX12_isSame_47 rfl ?_
    exact x_iret C dX12_isSame_48 (by first | rfl | exact nar_b _ | exact nar_01 (by first | assumption | omega | exact hw.2.2.2.2.1 _ _ rfl | exact hz0 _ _ rfl)) ⟨vi (by first | rfl | (simp [bI, rSame, h12]; done) | (simp [bI, rSame, h12]; omega)), rfl⟩
  · skip
    refine x_aload_n 16 C dX12_isSame_15 rfl rfl ?_
    refine x_mrow 19 9 C fr_X12_23 dX12_isSame_16 rfl rfl hM ?_
    refine x_iload_n 20 C dX12_isSame_19 rfl rfl ?_
    refine x_mldI 21 9 C dX12_isSame_20 rfl rfl hM (by first | exact hIx | exact ⟨by omega, Int.lt_of_lt_of_le (b := 24) (by omega) (by decide)⟩) ?_
    refine x_aload_n 22 C dX12_isSame_21 rfl rfl ?_
    refine x_mrow 25 9 C fr_X12_23 dX12_isSame_22 rfl rfl hM ?_
    refine x_iload_n 26 C dX12_isSame_25 rfl rfl ?_
    refine x_mldI 27 9 C dX12_isSame_26 rfl rfl hM (by first | exact hIx | exact ⟨by omega, Int.lt_of_lt_of_le (b := 24) (by omega) (by decide)⟩) ?_
    refine x_icmp_ne 30 47 C dX12_isSame_27 rfl (by decide) (by first | exact hw.2.2.1 _ _ | exact hr0 _ _ | assumption | omega | exact ⟨by omega, by omega⟩) (by first | exact hw.2.2.1 _ _ | exact hr0 _ _ | assumption | omega | exact ⟨by omega, by omega⟩) (fun h27 => ?_) (fun h27 => ?_)
    · skip
      refine x_iconst 48 C dX12_isSame_47 rfl ?_
      exact x_iret C dX12_isSame_48 (by first | rfl | exact nar_b _ | exact nar_01 (by first | assumption | omega | exact hw.2.2.2.2.1 _ _ rfl | exact hz0 _ _ rfl)) ⟨vi (by first | rfl | (simp [bI, rSame, h12, h27]; done) | (simp [bI, rSame, h12, h27]; omega)), rfl⟩
    · skip
      refine x_aload_n 31 C dX12_isSame_30 rfl rfl ?_
      refine x_iload_n 32 C dX12_isSame_31 rfl rfl ?_
      refine x_Vr (As := [_]) 35 C vw_X12_235 iw_X12_gate sw_X12_gate (c_X12_gate hM hA (by omega)) dX12_isSame_32 rfl rfl rfl rfl rfl rfl hM.1 ⟨Nat.le_of_ble_eq_true rfl, Nat.le_of_ble_eq_true rfl⟩ (Nat.le_of_ble_eq_true rfl) ?_
      refine x_aload_n 36 C dX12_isSame_35 rfl rfl ?_
      refine x_iload_n 37 C dX12_isSame_36 rfl rfl ?_
      refine x_Vr (As := [_]) 40 C vw_X12_235 iw_X12_gate sw_X12_gate (c_X12_gate hM hA (by omega)) dX12_isSame_37 rfl rfl rfl rfl rfl rfl hM.1 ⟨Nat.le_of_ble_eq_true rfl, Nat.le_of_ble_eq_true rfl⟩ (Nat.le_of_ble_eq_true rfl) ?_
      refine x_icmp_ne 43 47 C dX12_isSame_40 rfl (by decide) (by first | exact hw.2.2.1 _ _ | exact hr0 _ _ | assumption | omega | exact ⟨by omega, by omega⟩) (by first | exact hw.2.2.1 _ _ | exact hr0 _ _ | assumption | omega | exact ⟨by omega, by omega⟩) (fun h40 => ?_) (fun h40 => ?_)
      · skip
        refine x_iconst 48 C dX12_isSame_47 rfl ?_
        exact x_iret C dX12_isSame_48 (by first | rfl | exact nar_b _ | exact nar_01 (by first | assumption | omega | exact hw.2.2.2.2.1 _ _ rfl | exact hz0 _ _ rfl)) ⟨vi (by first | rfl | (simp [bI, rSame, h12, h27, h40]; done) | (simp [bI, rSame, h12, h27, h40]; omega)), rfl⟩
      · skip
        refine x_iconst 44 C dX12_isSame_43 rfl ?_
        refine x_goto 48 C dX12_isSame_44 (by decide) ?_
        exact x_iret C dX12_isSame_48 (by first | rfl | exact nar_b _ | exact nar_01 (by first | assumption | omega | exact hw.2.2.2.2.1 _ _ rfl | exact hz0 _ _ rfl)) ⟨vi (by first | rfl | (simp [bI, rSame, h12, h27, h40]; done) | (simp [bI, rSame, h12, h27, h40]; omega)), rfl⟩
set_option maxHeartbeats 4000000 in
set_option maxRecDepth 100000 in
theorem c_X12_top {E : EV} {l : Launch} {G : GT} {R : RT} {o : Nat} {a : Int} (hM : RM G o) (hP : RP R) (h1 : 0 ≤ a ∧ a < R 24 0) : MT E l yX12_top cX12_top 3 (some .int) 0 0 0 0 [.ref o, .int (i32 a)] (wR G R) (pD (some (.int (i32 (rTop R a)))) (wR G (R))) := by
  refine mt_of (own := RX12) (L := [some (.ref o), some (.int (i32 a)), none]) (by decide +kernel) rfl (Nat.le_of_ble_eq_true rfl) (List.forall_mem_cons.mpr ⟨rfl, (List.forall_mem_cons.mpr ⟨rfl, (fun _ h => absurd h List.not_mem_nil)⟩)⟩) rfl ?_
  intro p e s m args below meth c C hin
  refine x_wf (fun hw => ?_)
  have hr0 : ∀ k j, InR (R k j) := hw.2.2.1
  have hz0 : ∀ k j, mZ k = true → R k j = 0 ∨ R k j = 1 := hw.2.2.2.2.1
  have hh := hP.1
  refine x_iload_n 1 C dX12_top_0 rfl rfl ?_
  refine x_istore_n 2 C dX12_top_1 rfl rfl rfl ?_
  refine x_loop (α := Int) (fun k => k.toNat) (fun k => 0 ≤ k ∧ k < R 24 0 ∧ rTop R k = rTop R a) (fun k => wR G R) (fun k => [some (.ref o), some (.int (i32 a)), some (.int (i32 k))]) (fun _ => []) a ⟨h1.1, h1.2, rfl⟩ rfl rfl rfl ?_
  intro aa hI ih
  obtain ⟨k, rfl⟩ := (⟨aa, rfl⟩ : ∃ z, z = aa)
  (try dsimp only at hI); (try dsimp only at ih); (try dsimp only)
  obtain ⟨i1, i2, i3⟩ := hI
  obtain ⟨-, hu, -⟩ := hP.2 k.toNat (by omega)
  refine x_aload_n 3 C dX12_top_2 rfl rfl ?_
  refine x_mrow 6 26 C fr_X12_71 dX12_top_3 rfl rfl hM ?_
  refine x_iload_n 7 C dX12_top_6 rfl rfl ?_
  refine x_mldI 8 26 C dX12_top_7 rfl rfl hM (by first | exact hIx | exact ⟨by omega, Int.lt_of_lt_of_le (b := 8) (by omega) (by decide)⟩) ?_
  refine x_iconst 9 C dX12_top_8 rfl ?_
  refine x_icmp_eq 12 22 C dX12_top_9 rfl (by decide) (by first | exact hw.2.2.1 _ _ | exact hr0 _ _ | assumption | omega | exact ⟨by omega, by omega⟩) (by first | exact hw.2.2.1 _ _ | exact hr0 _ _ | assumption | omega | exact ⟨by omega, by omega⟩) (fun h9 => ?_) (fun h9 => ?_)
  · skip
    refine x_iload_n 23 C dX12_top_22 rfl rfl ?_
    exact x_iret C dX12_top_23 rfl ⟨vi (by rw [← i3, rTop_stop h9]), rfl⟩
  · skip
    refine x_aload_n 13 C dX12_top_12 rfl rfl ?_
    refine x_mrow 16 26 C fr_X12_71 dX12_top_13 rfl rfl hM ?_
    refine x_iload_n 17 C dX12_top_16 rfl rfl ?_
    refine x_mldI 18 26 C dX12_top_17 rfl rfl hM (by first | exact hIx | exact ⟨by omega, Int.lt_of_lt_of_le (b := 8) (by omega) (by decide)⟩) ?_
    refine x_istore_n 19 C dX12_top_18 rfl rfl rfl ?_
    refine x_goto 2 C dX12_top_19 (by decide) ?_
    exact ih (R 26 k.toNat) ⟨by omega, by omega, by rw [← i3]; exact (rTop_step hP i1 i2 h9).symm⟩ (by omega)
set_option maxHeartbeats 4000000 in
set_option maxRecDepth 100000 in
theorem c_X12_isForeign {E : EV} {l : Launch} {G : GT} {R : RT} {o : Nat} {a : Int} (hM : RM G o) (hH : RH R) (hA : RA R) (hD : RAd R) (hP : RP R) (h1 : 0 ≤ a ∧ a < R 24 0) : MT E l yX12_isForeign cX12_isForeign 4 (some .boolean) 2 43 0 0 [.ref o, .int (i32 a)] (wR G R) (pD (some (.int (i32 (bI (rFor R a))))) (wR G (R))) := by
  refine mt_of (own := RX12) (L := [some (.ref o), some (.int (i32 a)), none, none]) (by decide +kernel) rfl (Nat.le_of_ble_eq_true rfl) (List.forall_mem_cons.mpr ⟨rfl, (List.forall_mem_cons.mpr ⟨rfl, (fun _ h => absurd h List.not_mem_nil)⟩)⟩) rfl ?_
  intro p e s m args below meth c C hin
  refine x_wf (fun hw => ?_)
  have hr0 : ∀ k j, InR (R k j) := hw.2.2.1
  have hz0 : ∀ k j, mZ k = true → R k j = 0 ∨ R k j = 1 := hw.2.2.2.2.1
  have hh := hA.1
  have hh2 := hA.2
  have hh3 := hP.1
  obtain ⟨ha1, ha2, ha3⟩ := hP.2 a.toNat (by omega)
  have pa := rPlace_in hH hD ha1.1 ha1.2
  refine x_iconst 1 C dX12_isForeign_0 rfl ?_
  refine x_istore_n 2 C dX12_isForeign_1 rfl rfl rfl ?_
  refine x_aload_n 3 C dX12_isForeign_2 rfl rfl ?_
  refine x_mrow 6 26 C fr_X12_71 dX12_isForeign_3 rfl rfl hM ?_
  refine x_iload_n 7 C dX12_isForeign_6 rfl rfl ?_
  refine x_mldI 8 26 C dX12_isForeign_7 rfl rfl hM (by first | exact hIx | exact ⟨by omega, Int.lt_of_lt_of_le (b := 8) (by omega) (by decide)⟩) ?_
  refine x_istore_n 9 C dX12_isForeign_8 rfl rfl rfl ?_
  refine x_loop (α := Bool × Int) (fun ⟨b, k⟩ => (k + 1).toNat) (fun ⟨b, k⟩ => -1 ≤ k ∧ k < R 24 0 ∧ (b || rForF R (rPlace R (R 25 a.toNat)) 9 k) = rFor R a) (fun ⟨b, k⟩ => wR G R) (fun ⟨b, k⟩ => [some (.ref o), some (.int (i32 a)), some (.int (i32 (bI b))), some (.int (i32 k))]) (fun _ => []) (false, R 26 a.toNat) ⟨by omega, by omega, rfl⟩ rfl rfl rfl ?_
  intro aa hI ih
  obtain ⟨b, k⟩ := aa
  (try dsimp only at hI); (try dsimp only at ih); (try dsimp only)
  obtain ⟨i1, i2, i3⟩ := hI
  have hu := hP.2 k.toNat
  refine x_iload_n 10 C dX12_isForeign_9 rfl rfl ?_
  refine x_iconst 11 C dX12_isForeign_10 rfl ?_
  refine x_icmp_eq 14 57 C dX12_isForeign_11 rfl (by decide) (by first | exact hw.2.2.1 _ _ | exact hr0 _ _ | assumption | omega | exact ⟨by omega, by omega⟩) (by first | exact hw.2.2.1 _ _ | exact hr0 _ _ | assumption | omega | exact ⟨by omega, by omega⟩) (fun h11 => ?_) (fun h11 => ?_)
  · skip
    refine x_iload_n 58 C dX12_isForeign_57 rfl rfl ?_
    exact x_iret C dX12_isForeign_58 (by first | rfl | exact nar_b _ | exact nar_01 (by first | assumption | omega | exact hw.2.2.2.2.1 _ _ rfl | exact hz0 _ _ rfl)) ⟨vi (by rw [← i3, h11, rForF_top, Bool.or_false]), rfl⟩
  · skip
    obtain ⟨u1, u2, u3⟩ := hu (by omega)
    have pk := rPlace_in hH hD u1.1 u1.2
    refine x_joinv 46 (fun vJ => vJ = bI (b || decide (¬ rPlace R (R 25 k.toNat) = rPlace R (R 25 a.toNat)))) ?_ (fun hJ46 => ?_)
    · intro vJ hJ
      subst hJ
      refine x_istore_n 47 C dX12_isForeign_46 rfl rfl rfl ?_
      refine x_aload_n 48 C dX12_isForeign_47 rfl rfl ?_
      refine x_mrow 51 26 C fr_X12_71 dX12_isForeign_48 rfl rfl hM ?_
      refine x_iload_n 52 C dX12_isForeign_51 rfl rfl ?_
      refine x_mldI 53 26 C dX12_isForeign_52 rfl rfl hM (by first | exact hIx | exact ⟨by omega, Int.lt_of_lt_of_le (b := 8) (by omega) (by decide)⟩) ?_
      refine x_istore_n 54 C dX12_isForeign_53 rfl rfl rfl ?_
      refine x_goto 9 C dX12_isForeign_54 (by decide) ?_
      exact ih (b || decide (¬ rPlace R (R 25 k.toNat) = rPlace R (R 25 a.toNat)), R 26 k.toNat) ⟨by dsimp only; omega, by dsimp only; omega, by dsimp only; rw [← i3, rForF_step hP i1 i2 h11, Bool.or_assoc]⟩ (by dsimp only; omega)
    · skip
      obtain ⟨u1, u2, u3⟩ := hu (by omega)
      have pk := rPlace_in hH hD u1.1 u1.2
      refine x_iload_n 15 C dX12_isForeign_14 rfl rfl ?_
      refine x_if_neB 18 41 C dX12_isForeign_15 rfl (by decide) (fun h15 => ?_) (fun h15 => ?_)
      · skip
        refine x_iconst 42 C dX12_isForeign_41 rfl ?_
        refine x_goto 46 C dX12_isForeign_42 (by decide) ?_
        exact hJ46 _ (by first | (simp [bI, h15]; done) | (simp [bI, h15]; omega) | (simp [bI, h15] at *; omega))
      · skip
        refine x_aload_n 19 C dX12_isForeign_18 rfl rfl ?_
        refine x_aload_n 20 C dX12_isForeign_19 rfl rfl ?_
        refine x_mrow 23 25 C fr_X12_68 dX12_isForeign_20 rfl rfl hM ?_
        refine x_iload_n 24 C dX12_isForeign_23 rfl rfl ?_
        refine x_mldI 25 25 C dX12_isForeign_24 rfl rfl hM (by first | exact hIx | exact ⟨by omega, Int.lt_of_lt_of_le (b := 8) (by omega) (by decide)⟩) ?_
        refine x_Vr (As := [_]) 28 C vw_X12_238 iw_X12_place sw_X12_place (c_X12_place hM hH hA hD (by omega)) dX12_isForeign_25 rfl rfl rfl rfl rfl rfl hM.1 ⟨Nat.le_of_ble_eq_true rfl, Nat.le_of_ble_eq_true rfl⟩ (Nat.le_of_ble_eq_true rfl) ?_
        refine x_aload_n 29 C dX12_isForeign_28 rfl rfl ?_
        refine x_aload_n 30 C dX12_isForeign_29 rfl rfl ?_
        refine x_mrow 33 25 C fr_X12_68 dX12_isForeign_30 rfl rfl hM ?_
        refine x_iload_n 34 C dX12_isForeign_33 rfl rfl ?_
        refine x_mldI 35 25 C dX12_isForeign_34 rfl rfl hM (by first | exact hIx | exact ⟨by omega, Int.lt_of_lt_of_le (b := 8) (by omega) (by decide)⟩) ?_
        refine x_Vr (As := [_]) 38 C vw_X12_238 iw_X12_place sw_X12_place (c_X12_place hM hH hA hD (by omega)) dX12_isForeign_35 rfl rfl rfl rfl rfl rfl hM.1 ⟨Nat.le_of_ble_eq_true rfl, Nat.le_of_ble_eq_true rfl⟩ (Nat.le_of_ble_eq_true rfl) ?_
        refine x_icmp_eq 41 45 C dX12_isForeign_38 rfl (by decide) (by first | exact hw.2.2.1 _ _ | exact hr0 _ _ | assumption | omega | exact ⟨by omega, by omega⟩) (by first | exact hw.2.2.1 _ _ | exact hr0 _ _ | assumption | omega | exact ⟨by omega, by omega⟩) (fun h38 => ?_) (fun h38 => ?_)
        · skip
          refine x_iconst 46 C dX12_isForeign_45 rfl ?_
          exact hJ46 _ (by first | (simp [bI, h15, h38]; done) | (simp [bI, h15, h38]; omega) | (simp [bI, h15, h38] at *; omega))
        · skip
          refine x_iconst 42 C dX12_isForeign_41 rfl ?_
          refine x_goto 46 C dX12_isForeign_42 (by decide) ?_
          exact hJ46 _ (by first | (simp [bI, h15, h38]; done) | (simp [bI, h15, h38]; omega) | (simp [bI, h15, h38] at *; omega))
