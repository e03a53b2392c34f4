/-! rows laid by program (wip/tools/genp.py) -/
def rkPr (w r : Int) : List Nat := (if r < 100 ∧ 100 ≤ w then [47, (48 + w / 100).toNat] else []) ++ ((if r < 10 ∧ 10 ≤ w then [47, (48 + w / 10 % 10).toNat] else []) ++ (if r < 1 ∧ 1 ≤ w then [47, (48 + w % 10).toNat] else []))
theorem rkPr_n {w r : Int} (h : (r = 100) ∨ (r = 10 ∧ w < 100) ∨ (r = 1 ∧ w < 10)) : rkPr w r = [] := by
  unfold rkPr
  rw [if_neg (by omega), if_neg (by omega), if_neg (by omega)]
  rfl
theorem dgs_1 {x : Nat} (h : x < 10) : dgs x = [48 + x] := by
  unfold dgs
  rw [if_pos h]
theorem rkPr_step {w r : Int} (h : (r = 100 ∧ 100 ≤ w) ∨ (r = 10 ∧ 10 ≤ w) ∨ (r = 1 ∧ 1 ≤ w)) (hw : w ≤ 999) : rkPr w (r / 10) = rkPr w r ++ [47] ++ dgs (w / r % 10).toNat := by
  rcases h with ⟨rfl, h⟩ | ⟨rfl, h⟩ | ⟨rfl, h⟩
  · rw [rkPr_n (Or.inl rfl), dgs_1 (by omega)]
    unfold rkPr
    rw [if_pos (by omega), if_neg (by omega), if_neg (by omega)]
    show [47, (48 + w / 100).toNat] = [47, 48 + (w / 100 % 10).toNat]
    rw [show (48 + w / 100).toNat = 48 + (w / 100 % 10).toNat by omega]
  · rw [dgs_1 (by omega)]
    unfold rkPr
    rw [if_pos (show (10 : Int) / 10 < 10 ∧ 10 ≤ w by omega), if_neg (show ¬ ((10 : Int) / 10 < 1 ∧ 1 ≤ w) by omega), if_neg (show ¬ ((10 : Int) < 10 ∧ 10 ≤ w) by omega), if_neg (show ¬ ((10 : Int) < 1 ∧ 1 ≤ w) by omega), show (48 + w / 10 % 10).toNat = 48 + (w / 10 % 10).toNat by omega]
    by_cases c : 100 ≤ w
    · rw [if_pos (by omega), if_pos (by omega)]
      rfl
    · rw [if_neg (by omega), if_neg (by omega)]
      rfl
  · rw [dgs_1 (by omega)]
    unfold rkPr
    rw [if_pos (show (1 : Int) / 10 < 1 ∧ 1 ≤ w by omega), if_neg (show ¬ ((1 : Int) < 1 ∧ 1 ≤ w) by omega), show (48 + w % 10).toNat = 48 + (w / 1 % 10).toNat by omega]
    by_cases c : 100 ≤ w
    · rw [if_pos (show (1 : Int) / 10 < 100 ∧ 100 ≤ w by omega), if_pos (show (1 : Int) / 10 < 10 ∧ 10 ≤ w by omega), if_pos (show (1 : Int) < 100 ∧ 100 ≤ w by omega), if_pos (show (1 : Int) < 10 ∧ 10 ≤ w by omega)]
      rfl
    · by_cases c2 : 10 ≤ w
      · rw [if_neg (show ¬ ((1 : Int) / 10 < 100 ∧ 100 ≤ w) by omega), if_pos (show (1 : Int) / 10 < 10 ∧ 10 ≤ w by omega), if_neg (show ¬ ((1 : Int) < 100 ∧ 100 ≤ w) by omega), if_pos (show (1 : Int) < 10 ∧ 10 ≤ w by omega)]
        rfl
      · rw [if_neg (show ¬ ((1 : Int) / 10 < 100 ∧ 100 ≤ w) by omega), if_neg (show ¬ ((1 : Int) / 10 < 10 ∧ 10 ≤ w) by omega), if_neg (show ¬ ((1 : Int) < 100 ∧ 100 ≤ w) by omega), if_neg (show ¬ ((1 : Int) < 10 ∧ 10 ≤ w) by omega)]
        rfl
theorem rkPr_end {w : Int} (h : 0 < w) (hw : w ≤ 999) : rkPr w 0 = rkPt w := by
  unfold rkPr rkPt
  rw [if_neg (show ¬ w = 0 by omega), if_pos (show (0 : Int) < 1 ∧ 1 ≤ w by omega)]
  by_cases c : 100 ≤ w
  · rw [if_pos (by omega), if_pos (by omega), if_neg (by omega), if_neg (by omega)]
    rfl
  · by_cases c2 : 10 ≤ w
    · rw [if_neg (by omega), if_pos (by omega), if_neg (by omega), if_pos (by omega), show w / 10 % 10 = w / 10 by omega]
      rfl
    · rw [if_neg (by omega), if_neg (by omega), if_pos (by omega), show w % 10 = w by omega]
      rfl
theorem rkPr_len (w r : Int) : (rkPr w r).length ≤ 6 := by
  unfold rkPr
  rw [List.length_append, List.length_append]
  split <;> split <;> split <;> exact Nat.le_of_ble_eq_true rfl
theorem rkPo_len (p : Int) : (rkPo p).length ≤ 5 := by
  unfold rkPo
  split
  · exact Nat.zero_le _
  · have := dgs_l p.toNat
    rw [List.length_cons]
    omega
def rkIt (r : Int) : Nat := if r = 100 then 3 else if r = 10 then 2 else if r = 1 then 1 else 0
theorem rkIt_c {r : Int} (h : r = 100 ∨ r = 10 ∨ r = 1 ∨ r = 0) : (r = 100 ∧ rkIt r = 3) ∨ (r = 10 ∧ rkIt r = 2) ∨ (r = 1 ∧ rkIt r = 1) ∨ (r = 0 ∧ rkIt r = 0) := by
  rcases h with rfl | rfl | rfl | rfl <;> simp [rkIt]
set_option maxHeartbeats 2000000 in
set_option maxRecDepth 100000 in
theorem c_X0_write {E : EV} {l : Launch} {G : GT} {B : Nat → Nat} {R : RT} (hW : rkW G B R) {s1 h p1 w : Int} (h1 : 0 ≤ s1 ∧ s1 ≤ 1) (h2 : 0 ≤ h ∧ h < R 3 0) (h3 : 0 ≤ p1 ∧ p1 ≤ 9999) (h4 : 0 ≤ w ∧ w ≤ 999) : MT E l yX0_write cX0_write 7 (some (.object "java/lang/String")) 7 171 65 10020 [.int (i32 s1), .ref (rkAt G (B 1) h), .int (i32 p1), .int (i32 w)] (G) (fun v G' => ∃ q, gK G q = 0 ∧ v = some (.ref q) ∧ rkFr [] [] G G' ∧ gK G' q = 22 ∧ gL G' q = rkText R s1 h p1 w) := by
  refine mt_of (own := RX0) (L := [some (.int (i32 s1)), some (.ref (rkAt G (B 1) h)), some (.int (i32 p1)), some (.int (i32 w)), none, none, none]) (by decide +kernel) rfl (Nat.le_of_ble_eq_true rfl) (List.forall_mem_cons.mpr ⟨rfl, (List.forall_mem_cons.mpr ⟨rfl, (List.forall_mem_cons.mpr ⟨rfl, (List.forall_mem_cons.mpr ⟨rfl, (fun _ h => absurd h List.not_mem_nil)⟩)⟩)⟩)⟩) rfl ?_
  intro p e s m args below meth c C hin
  refine x_wf (fun hw => ?_)
  obtain ⟨hB, hH, hA, hP, hI⟩ := id hW
  obtain ⟨⟨b0, b6, b7⟩, ⟨bk1, bk2, bk3, bk4, bk5, bk8, bk9⟩, ⟨bp0, bp1, bp2, bp3, bp4, bp5, bp6, bp7, bp8⟩, -⟩ := id hB
  obtain ⟨hl1, hh1⟩ := id hH
  obtain ⟨hl2, hh2⟩ := id hA
  obtain ⟨hl3, hh3⟩ := id hP
  obtain ⟨iH, iA, iAd, iHl, iP, iS, hRw, iU⟩ := id hI
  have iH1 := iH.1
  have iA1 := iA.1
  have iA2 := iA.2
  have iP1 := iP.1
  have hh8 := (hh1 h h2.1 h2.2).1
  have hhl := rkHt_len R h
  have hpl := rkPo_len p1
  refine x_newB (kc0 := 63) (ks0 := 10000) 7 C nwd_X0_39 vw_X0_41 iw_J4_init_da8c8 dX0_write_0 dX0_write_3 dX0_write_4 rfl ⟨Nat.le_of_ble_eq_true rfl, Nat.le_of_ble_eq_true rfl⟩ (Nat.le_of_ble_eq_true rfl) ⟨by omega, by omega⟩ (fun q0 hq0 => ?_)
  have hkq : gK (sK G q0 24) q0 = 24 := if_pos rfl
  have hfr0 : rkFr [] [] G (sK G q0 24) := fr_sKq hq0 fr_rfl
  have hWq : rkW (sK G q0 24) B R := rkW_fr hW hfr0 (fun k z => by cases z) ⟨List.not_mem_nil, List.not_mem_nil, List.not_mem_nil⟩ (fun x z => by cases z)
  have hkh : gK (sK G q0 24) (rkAt G (B 1) h) = 8 := (hfr0.1 _ (by omega)).trans hh8
  refine x_astore 9 C dX0_write_7 rfl rfl rfl ?_
  refine x_join (α := Nat) 23 (fun z => z < 2 ∧ z = (if s1 = 1 then 0 else 1)) (fun z => sL (sK G q0 24) q0 ([])) (fun z => [some (.int (i32 s1)), some (.ref (rkAt G (B 1) h)), some (.int (i32 p1)), some (.int (i32 w)), some (.ref q0), none, none]) (fun z => [.ref (kS E z), .ref q0]) ?_ (fun hJ23 => ?_)
  · intro aa hJ
    obtain ⟨z, rfl⟩ := (⟨aa, rfl⟩ : ∃ z, z = aa)
    (try dsimp only at hJ); (try dsimp only)
    obtain ⟨z1, z2⟩ := hJ
    refine x_callL (As := [_]) (ci := 1) 26 62 9840 C vw_X0_46 iw_J4_append_15ec4 sw_J4_append_15ec4 (c_apS2 (ms := 160) (i := z) hkq z1 ⟨by (try simp only [List.length_nil]); omega, by (try simp only [List.length_nil]); omega⟩) dX0_write_23 rfl rfl rfl rfl rfl (Or.inr (Or.inl ⟨rfl, (by assumption)⟩)) ⟨Nat.le_of_ble_eq_true rfl, Nat.le_of_ble_eq_true rfl⟩ (Nat.le_of_ble_eq_true rfl) ⟨by omega, by omega⟩ (fun v G' hq => ?_)
    obtain ⟨rfl, hG9⟩ := hq
    replace hG9 := hG9.symm
    subst hG9
    refine x_as rfl rfl rfl ?_
    refine x_pop 27 C dX0_write_26 rfl rfl ?_
    refine x_as (G' := sL (sK G q0 24) q0 (kT z)) rfl rfl rfl ?_
    have hkl := kT_len z1
    refine x_aload_n 28 C dX0_write_27 rfl rfl ?_
    refine x_aload 30 C dX0_write_28 rfl rfl ?_
    refine x_callV (As := [_]) 33 8 11 1680 C vw_X0_50 iw_X5_appendTo sw_X5_appendTo (c_X5_appendTo hWq h2 hkq (by have := kT_len z1; omega)) dX0_write_30 rfl rfl rfl rfl rfl rfl hkh ⟨Nat.le_of_ble_eq_true rfl, Nat.le_of_ble_eq_true rfl⟩ (Nat.le_of_ble_eq_true rfl) ⟨by omega, by omega⟩ (fun v G' hq => ?_)
    obtain ⟨rfl, hG9⟩ := hq
    replace hG9 := hG9.symm
    subst hG9
    refine x_as rfl rfl rfl ?_
    refine x_joinK (kc1 := 9) (ks1 := 1360) (α := Unit) 49 (fun u => True) (fun u => sL (sK G q0 24) q0 (kT z ++ rkHt R h ++ rkPo p1)) (fun u => [some (.int (i32 s1)), some (.ref (rkAt G (B 1) h)), some (.int (i32 p1)), some (.int (i32 w)), some (.ref q0), none, none]) (fun u => []) ?_ (fun hJ49 => ?_)
    · intro aa hJ
      obtain ⟨u, rfl⟩ := (⟨aa, rfl⟩ : ∃ z, z = aa)
      (try dsimp only at hJ); (try dsimp only)
      refine x_joinv 72 (fun vJ => vJ = if 100 ≤ w then 100 else if 10 ≤ w then 10 else 1) ?_ (fun hJ72 => ?_)
      · intro vJ hJ
        subst hJ
        refine x_istore 74 C dX0_write_72 rfl rfl rfl ?_
        refine x_iload 76 C dX0_write_74 rfl rfl ?_
        refine x_istore 78 C dX0_write_76 rfl rfl rfl ?_
        refine x_loopK (α := Int) (fun r => r.toNat) (fun r => (r = 100 ∧ 100 ≤ w) ∨ (r = 10 ∧ 10 ≤ w) ∨ r = 1 ∨ (r = 0 ∧ 0 < w)) (fun r => sL (sK G q0 24) q0 (kT z ++ rkHt R h ++ rkPo p1 ++ rkPr w r)) (fun r => [some (.int (i32 s1)), some (.ref (rkAt G (B 1) h)), some (.int (i32 p1)), some (.int (i32 w)), some (.ref q0), some (.int (i32 (if 100 ≤ w then 100 else if 10 ≤ w then 10 else 1))), some (.int (i32 r))]) (fun _ => []) (fun r => 2 * rkIt r + 3) (fun r => 320 * rkIt r + 400) (if 100 ≤ w then 100 else if 10 ≤ w then 10 else 1) (by (try dsimp only); (repeat (first | omega | split))) (by (try dsimp only); rw [rkPr_n (by (repeat (first | omega | split))), List.append_nil]) rfl rfl (by (try dsimp only); have hit := rkIt_c (r := if 100 ≤ w then 100 else if 10 ≤ w then 10 else 1) (by (repeat (first | omega | split))); omega) ?_
        intro aa hI ih
        obtain ⟨r, rfl⟩ := (⟨aa, rfl⟩ : ∃ z, z = aa)
        (try dsimp only at hI); (try dsimp only at ih); (try dsimp only)
        have hit := rkIt_c (r := r) (by omega)
        have hprl := rkPr_len w r
        refine x_iload 80 C dX0_write_78 rfl rfl ?_
        refine x_iconst 81 C dX0_write_80 rfl ?_
        refine x_icmp_lt 84 116 C dX0_write_81 rfl (by decide) (by first | exact hRw _ _ | assumption | exact ⟨by omega, by omega⟩ | exact hw.1 _ _ | omega) (by first | exact hRw _ _ | assumption | exact ⟨by omega, by omega⟩ | exact hw.1 _ _ | omega) (fun h81 => ?_) (fun h81 => ?_)
        · skip
          refine x_iload_n 117 C dX0_write_116 rfl rfl ?_
          refine x_if_ne 120 128 C dX0_write_117 rfl (by decide) (by first | exact hRw _ _ | assumption | exact ⟨by omega, by omega⟩ | exact hw.1 _ _ | omega) (fun h117 => ?_) (fun h117 => ?_)
          · skip
            refine x_aload 130 C dX0_write_128 rfl rfl ?_
            refine x_callL (As := []) (ci := 1) 133 ((2 * rkIt r + 3) - 2) ((320 * rkIt r + 400) - 104) C vw_X0_62 iw_J4_toString_0e30d sw_J4_toString_0e30d (c_toS2 (ms := 100) hkq (by (try simp only [List.length_append, List.length_cons, List.length_nil]); omega)) dX0_write_130 rfl rfl rfl rfl rfl (Or.inr (Or.inl ⟨rfl, (by assumption)⟩)) ⟨Nat.le_of_ble_eq_true rfl, Nat.le_of_ble_eq_true rfl⟩ (Nat.le_of_ble_eq_true rfl) ⟨by omega, by omega⟩ (fun v G' hq => ?_)
            obtain ⟨q, hqa, rfl, hG9⟩ := hq
            subst hG9
            have hqG := fr_q hfr0 hqa
            refine x_as rfl rfl rfl ?_
            exact x_aret (r := some _) C dX0_write_133 rfl ⟨q, hqG, rfl, fr_sLq hqG (fr_sKq hqG (fr_sLq hq0 (fr_sKq hq0 fr_rfl))), if_pos rfl, (sL_s).trans (by unfold rkText; rw [← z2]; first | (exfalso; omega) | (have e0 : w = 0 := by omega); subst e0; rw [rkPr_n (by omega)]; simp [rkPt]; done | (have e1 : r = 0 := by omega); subst e1; rw [rkPr_end (by omega) h4.2]; simp)⟩
          · skip
            refine x_aload 122 C dX0_write_120 rfl rfl ?_
            refine x_bipush 124 C dX0_write_122 rfl (by decide) ?_
            refine x_as (st' := [.int (i32 ((47 : Nat) : Int)), .ref q0]) rfl rfl (by (try rw [Int.toNat_of_nonneg (by omega)]); try rfl) ?_
            refine x_callL (As := [_]) (ci := 1) 127 ((2 * rkIt r + 3) - 1) ((320 * rkIt r + 400) - 160) C vw_X0_56 iw_J4_append_cf468 sw_J4_append_cf468 (c_apC2 (ms := 160) (x := 47) hkq (by omega) ⟨(by (try simp only [List.length_append, List.length_cons, List.length_nil]); omega), (by (try simp only [List.length_append, List.length_cons, List.length_nil]); omega)⟩) dX0_write_124 rfl rfl rfl rfl rfl (Or.inr (Or.inl ⟨rfl, (by assumption)⟩)) ⟨Nat.le_of_ble_eq_true rfl, Nat.le_of_ble_eq_true rfl⟩ (Nat.le_of_ble_eq_true rfl) ⟨by omega, by omega⟩ (fun v G' hq => ?_)
            obtain ⟨rfl, hG9⟩ := hq
            replace hG9 := hG9.symm
            subst hG9
            refine x_as rfl rfl rfl ?_
            refine x_pop 128 C dX0_write_127 rfl rfl ?_
            refine x_aload 130 C dX0_write_128 rfl rfl ?_
            refine x_callL (As := []) (ci := 1) 133 (((2 * rkIt r + 3) - 1) - 2) (((320 * rkIt r + 400) - 160) - 104) C vw_X0_62 iw_J4_toString_0e30d sw_J4_toString_0e30d (c_toS2 (ms := 100) hkq (by (try simp only [List.length_append, List.length_cons, List.length_nil]); omega)) dX0_write_130 rfl rfl rfl rfl rfl (Or.inr (Or.inl ⟨rfl, (by assumption)⟩)) ⟨Nat.le_of_ble_eq_true rfl, Nat.le_of_ble_eq_true rfl⟩ (Nat.le_of_ble_eq_true rfl) ⟨by omega, by omega⟩ (fun v G' hq => ?_)
            obtain ⟨q, hqa, rfl, hG9⟩ := hq
            subst hG9
            have hqG := fr_q hfr0 hqa
            refine x_as rfl rfl rfl ?_
            exact x_aret (r := some _) C dX0_write_133 rfl ⟨q, hqG, rfl, fr_sLq hqG (fr_sKq hqG (fr_sLq hq0 (fr_sKq hq0 fr_rfl))), if_pos rfl, (sL_s).trans (by unfold rkText; rw [← z2]; first | (exfalso; omega) | (have e0 : w = 0 := by omega); subst e0; rw [rkPr_n (by omega)]; simp [rkPt]; done | (have e1 : r = 0 := by omega); subst e1; rw [rkPr_end (by omega) h4.2]; simp)⟩
        · skip
          refine x_iload_n 85 C dX0_write_84 rfl rfl ?_
          refine x_if_le 88 116 C dX0_write_85 rfl (by decide) (by first | exact hRw _ _ | assumption | exact ⟨by omega, by omega⟩ | exact hw.1 _ _ | omega) (fun h85 => ?_) (fun h85 => ?_)
          · skip
            refine x_iload_n 117 C dX0_write_116 rfl rfl ?_
            refine x_if_ne 120 128 C dX0_write_117 rfl (by decide) (by first | exact hRw _ _ | assumption | exact ⟨by omega, by omega⟩ | exact hw.1 _ _ | omega) (fun h117 => ?_) (fun h117 => ?_)
            · skip
              refine x_aload 130 C dX0_write_128 rfl rfl ?_
              refine x_callL (As := []) (ci := 1) 133 ((2 * rkIt r + 3) - 2) ((320 * rkIt r + 400) - 104) C vw_X0_62 iw_J4_toString_0e30d sw_J4_toString_0e30d (c_toS2 (ms := 100) hkq (by (try simp only [List.length_append, List.length_cons, List.length_nil]); omega)) dX0_write_130 rfl rfl rfl rfl rfl (Or.inr (Or.inl ⟨rfl, (by assumption)⟩)) ⟨Nat.le_of_ble_eq_true rfl, Nat.le_of_ble_eq_true rfl⟩ (Nat.le_of_ble_eq_true rfl) ⟨by omega, by omega⟩ (fun v G' hq => ?_)
              obtain ⟨q, hqa, rfl, hG9⟩ := hq
              subst hG9
              have hqG := fr_q hfr0 hqa
              refine x_as rfl rfl rfl ?_
              exact x_aret (r := some _) C dX0_write_133 rfl ⟨q, hqG, rfl, fr_sLq hqG (fr_sKq hqG (fr_sLq hq0 (fr_sKq hq0 fr_rfl))), if_pos rfl, (sL_s).trans (by unfold rkText; rw [← z2]; first | (exfalso; omega) | (have e0 : w = 0 := by omega); subst e0; rw [rkPr_n (by omega)]; simp [rkPt]; done | (have e1 : r = 0 := by omega); subst e1; rw [rkPr_end (by omega) h4.2]; simp)⟩
            · skip
              refine x_aload 122 C dX0_write_120 rfl rfl ?_
              refine x_bipush 124 C dX0_write_122 rfl (by decide) ?_
              refine x_as (st' := [.int (i32 ((47 : Nat) : Int)), .ref q0]) rfl rfl (by (try rw [Int.toNat_of_nonneg (by omega)]); try rfl) ?_
              refine x_callL (As := [_]) (ci := 1) 127 ((2 * rkIt r + 3) - 1) ((320 * rkIt r + 400) - 160) C vw_X0_56 iw_J4_append_cf468 sw_J4_append_cf468 (c_apC2 (ms := 160) (x := 47) hkq (by omega) ⟨(by (try simp only [List.length_append, List.length_cons, List.length_nil]); omega), (by (try simp only [List.length_append, List.length_cons, List.length_nil]); omega)⟩) dX0_write_124 rfl rfl rfl rfl rfl (Or.inr (Or.inl ⟨rfl, (by assumption)⟩)) ⟨Nat.le_of_ble_eq_true rfl, Nat.le_of_ble_eq_true rfl⟩ (Nat.le_of_ble_eq_true rfl) ⟨by omega, by omega⟩ (fun v G' hq => ?_)
              obtain ⟨rfl, hG9⟩ := hq
              replace hG9 := hG9.symm
              subst hG9
              refine x_as rfl rfl rfl ?_
              refine x_pop 128 C dX0_write_127 rfl rfl ?_
              refine x_aload 130 C dX0_write_128 rfl rfl ?_
              refine x_callL (As := []) (ci := 1) 133 (((2 * rkIt r + 3) - 1) - 2) (((320 * rkIt r + 400) - 160) - 104) C vw_X0_62 iw_J4_toString_0e30d sw_J4_toString_0e30d (c_toS2 (ms := 100) hkq (by (try simp only [List.length_append, List.length_cons, List.length_nil]); omega)) dX0_write_130 rfl rfl rfl rfl rfl (Or.inr (Or.inl ⟨rfl, (by assumption)⟩)) ⟨Nat.le_of_ble_eq_true rfl, Nat.le_of_ble_eq_true rfl⟩ (Nat.le_of_ble_eq_true rfl) ⟨by omega, by omega⟩ (fun v G' hq => ?_)
              obtain ⟨q, hqa, rfl, hG9⟩ := hq
              subst hG9
              have hqG := fr_q hfr0 hqa
              refine x_as rfl rfl rfl ?_
              exact x_aret (r := some _) C dX0_write_133 rfl ⟨q, hqG, rfl, fr_sLq hqG (fr_sKq hqG (fr_sLq hq0 (fr_sKq hq0 fr_rfl))), if_pos rfl, (sL_s).trans (by unfold rkText; rw [← z2]; first | (exfalso; omega) | (have e0 : w = 0 := by omega); subst e0; rw [rkPr_n (by omega)]; simp [rkPt]; done | (have e1 : r = 0 := by omega); subst e1; rw [rkPr_end (by omega) h4.2]; simp)⟩
          · skip
            refine x_aload 90 C dX0_write_88 rfl rfl ?_
            refine x_bipush 92 C dX0_write_90 rfl (by decide) ?_
            refine x_as (st' := [.int (i32 ((47 : Nat) : Int)), .ref q0]) rfl rfl (by (try rw [Int.toNat_of_nonneg (by omega)]); try rfl) ?_
            refine x_callL (As := [_]) (ci := 1) 95 ((2 * rkIt r + 3) - 1) ((320 * rkIt r + 400) - 160) C vw_X0_56 iw_J4_append_cf468 sw_J4_append_cf468 (c_apC2 (ms := 160) (x := 47) hkq (by omega) ⟨(by (try simp only [List.length_append, List.length_cons, List.length_nil]); omega), (by (try simp only [List.length_append, List.length_cons, List.length_nil]); omega)⟩) dX0_write_92 rfl rfl rfl rfl rfl (Or.inr (Or.inl ⟨rfl, (by assumption)⟩)) ⟨Nat.le_of_ble_eq_true rfl, Nat.le_of_ble_eq_true rfl⟩ (Nat.le_of_ble_eq_true rfl) ⟨by omega, by omega⟩ (fun v G' hq => ?_)
            obtain ⟨rfl, hG9⟩ := hq
            replace hG9 := hG9.symm
            subst hG9
            refine x_as rfl rfl rfl ?_
            refine x_iload_n 96 C dX0_write_95 rfl rfl ?_
            refine x_iload 98 C dX0_write_96 rfl rfl ?_
            have hwr0 : 0 ≤ w / r ∧ w / r ≤ 999 := by (rcases hI with ⟨rfl, hI2⟩ | ⟨rfl, hI2⟩ | rfl | ⟨rfl, hI2⟩ <;> omega)
            refine x_idiv 99 C dX0_write_98 rfl ⟨⟨by omega, by omega⟩, by omega, by omega⟩ ?_
            refine x_bipush 101 C dX0_write_99 rfl (by decide) ?_
            refine x_irem 102 C dX0_write_101 rfl ⟨⟨hwr0.1, by omega⟩, by omega, by omega⟩ ?_
            have hwr : 0 ≤ w / r % 10 ∧ w / r % 10 < 10 := by omega
            refine x_as (st' := [.int (i32 (((w / r % 10).toNat : Nat) : Int)), .ref q0]) rfl rfl (by (try rw [Int.toNat_of_nonneg (by omega)]); try rfl) ?_
            refine x_callL (As := [_]) (ci := 1) 105 (((2 * rkIt r + 3) - 1) - 1) (((320 * rkIt r + 400) - 160) - 160) C vw_X0_59 iw_J4_append_bf812 sw_J4_append_bf812 (c_apI2 (ms := 160) (x := (w / r % 10).toNat) hkq (by omega) ⟨(by (try simp only [List.length_append, List.length_cons, List.length_nil]); omega), (by (try simp only [List.length_append, List.length_cons, List.length_nil]); omega)⟩) dX0_write_102 rfl rfl rfl rfl rfl (Or.inr (Or.inl ⟨rfl, (by assumption)⟩)) ⟨Nat.le_of_ble_eq_true rfl, Nat.le_of_ble_eq_true rfl⟩ (Nat.le_of_ble_eq_true rfl) ⟨by omega, by omega⟩ (fun v G' hq => ?_)
            obtain ⟨rfl, hG9⟩ := hq
            replace hG9 := hG9.symm
            subst hG9
            refine x_as rfl rfl rfl ?_
            refine x_pop 106 C dX0_write_105 rfl rfl ?_
            refine x_iload 108 C dX0_write_106 rfl rfl ?_
            refine x_bipush 110 C dX0_write_108 rfl (by decide) ?_
            refine x_idiv 111 C dX0_write_110 rfl (by omega) ?_
            refine x_istore 113 C dX0_write_111 rfl rfl rfl ?_
            refine x_goto 78 C dX0_write_113 (by decide) ?_
            have hit2 := rkIt_c (r := r / 10) (by omega)
            refine x_as (G' := sL (sK G q0 24) q0 (kT z ++ rkHt R h ++ rkPo p1 ++ rkPr w (r / 10))) (by rw [rkPr_step (by omega) h4.2]; exact congrArg (sL (sK G q0 24) q0) (by simp)) rfl rfl (x_weak (by (try dsimp only); omega) (by (try dsimp only); omega) (ih (r / 10) (by (try dsimp only); omega) (by (try dsimp only); omega)))
      · skip
        refine x_iload_n 50 C dX0_write_49 rfl rfl ?_
        refine x_bipush 52 C dX0_write_50 rfl (by decide) ?_
        refine x_icmp_lt 55 60 C dX0_write_52 rfl (by decide) (by first | exact hRw _ _ | assumption | exact ⟨by omega, by omega⟩ | exact hw.1 _ _ | omega) (by first | exact hRw _ _ | assumption | exact ⟨by omega, by omega⟩ | exact hw.1 _ _ | omega) (fun h52 => ?_) (fun h52 => ?_)
        · skip
          refine x_iload_n 61 C dX0_write_60 rfl rfl ?_
          refine x_bipush 63 C dX0_write_61 rfl (by decide) ?_
          refine x_icmp_lt 66 71 C dX0_write_63 rfl (by decide) (by first | exact hRw _ _ | assumption | exact ⟨by omega, by omega⟩ | exact hw.1 _ _ | omega) (by first | exact hRw _ _ | assumption | exact ⟨by omega, by omega⟩ | exact hw.1 _ _ | omega) (fun h63 => ?_) (fun h63 => ?_)
          · skip
            refine x_iconst 72 C dX0_write_71 rfl ?_
            exact hJ72 _ (by first | (exfalso; omega) | (rw [if_pos (by omega)]; done) | (rw [if_neg (by omega), if_pos (by omega)]; done) | (rw [if_neg (by omega), if_neg (by omega)]; done))
          · skip
            refine x_bipush 68 C dX0_write_66 rfl (by decide) ?_
            refine x_goto 72 C dX0_write_68 (by decide) ?_
            exact hJ72 _ (by first | (exfalso; omega) | (rw [if_pos (by omega)]; done) | (rw [if_neg (by omega), if_pos (by omega)]; done) | (rw [if_neg (by omega), if_neg (by omega)]; done))
        · skip
          refine x_bipush 57 C dX0_write_55 rfl (by decide) ?_
          refine x_goto 72 C dX0_write_57 (by decide) ?_
          exact hJ72 _ (by first | (exfalso; omega) | (rw [if_pos (by omega)]; done) | (rw [if_neg (by omega), if_pos (by omega)]; done) | (rw [if_neg (by omega), if_neg (by omega)]; done))
    · skip
      refine x_iload_n 34 C dX0_write_33 rfl rfl ?_
      refine x_if_eq 37 49 C dX0_write_34 rfl (by decide) (by first | exact hRw _ _ | assumption | exact ⟨by omega, by omega⟩ | exact hw.1 _ _ | omega) (fun h34 => ?_) (fun h34 => ?_)
      · skip
        refine x_as (G' := sL (sK G q0 24) q0 (kT z ++ rkHt R h ++ rkPo p1)) (by rw [rkPo, if_pos h34, List.append_nil]) rfl rfl (x_weak (by omega) (by omega) (hJ49 () trivial))
      · skip
        refine x_aload 39 C dX0_write_37 rfl rfl ?_
        refine x_bipush 41 C dX0_write_39 rfl (by decide) ?_
        refine x_as (st' := [.int (i32 ((58 : Nat) : Int)), .ref q0]) rfl rfl (by (try rw [Int.toNat_of_nonneg (by omega)]); try rfl) ?_
        refine x_callL (As := [_]) (ci := 1) 44 10 1520 C vw_X0_56 iw_J4_append_cf468 sw_J4_append_cf468 (c_apC2 (ms := 160) (x := 58) hkq (by omega) ⟨(by (try simp only [List.length_append, List.length_cons, List.length_nil]); omega), (by (try simp only [List.length_append, List.length_cons, List.length_nil]); omega)⟩) dX0_write_41 rfl rfl rfl rfl rfl (Or.inr (Or.inl ⟨rfl, (by assumption)⟩)) ⟨Nat.le_of_ble_eq_true rfl, Nat.le_of_ble_eq_true rfl⟩ (Nat.le_of_ble_eq_true rfl) ⟨by omega, by omega⟩ (fun v G' hq => ?_)
        obtain ⟨rfl, hG9⟩ := hq
        replace hG9 := hG9.symm
        subst hG9
        refine x_as rfl rfl rfl ?_
        refine x_iload_n 45 C dX0_write_44 rfl rfl ?_
        refine x_as (st' := [.int (i32 ((p1.toNat : Nat) : Int)), .ref q0]) rfl rfl (by (try rw [Int.toNat_of_nonneg (by omega)]); try rfl) ?_
        refine x_callL (As := [_]) (ci := 1) 48 9 1360 C vw_X0_59 iw_J4_append_bf812 sw_J4_append_bf812 (c_apI2 (ms := 160) (x := p1.toNat) hkq (by omega) ⟨(by (try simp only [List.length_append, List.length_cons, List.length_nil]); omega), (by (try simp only [List.length_append, List.length_cons, List.length_nil]); omega)⟩) dX0_write_45 rfl rfl rfl rfl rfl (Or.inr (Or.inl ⟨rfl, (by assumption)⟩)) ⟨Nat.le_of_ble_eq_true rfl, Nat.le_of_ble_eq_true rfl⟩ (Nat.le_of_ble_eq_true rfl) ⟨by omega, by omega⟩ (fun v G' hq => ?_)
        obtain ⟨rfl, hG9⟩ := hq
        replace hG9 := hG9.symm
        subst hG9
        refine x_as rfl rfl rfl ?_
        refine x_pop 49 C dX0_write_48 rfl rfl ?_
        refine x_as (G' := sL (sK G q0 24) q0 (kT z ++ rkHt R h ++ rkPo p1)) (by rw [rkPo, if_neg h34, List.append_assoc _ [58] _]; rfl) rfl rfl (x_weak (by omega) (by omega) (hJ49 () trivial))
  · skip
    refine x_aload 11 C dX0_write_9 rfl rfl ?_
    refine x_iload_n 12 C dX0_write_11 rfl rfl ?_
    refine x_iconst 13 C dX0_write_12 rfl ?_
    refine x_icmp_ne 16 21 C dX0_write_13 rfl (by decide) (by first | exact hRw _ _ | assumption | exact ⟨by omega, by omega⟩ | exact hw.1 _ _ | omega) (by first | exact hRw _ _ | assumption | exact ⟨by omega, by omega⟩ | exact hw.1 _ _ | omega) (fun h13 => ?_) (fun h13 => ?_)
    · skip
      refine x_ldcK1 23 C dX0_write_21 rfl ?_
      exact hJ23 1 ⟨by omega, by rw [if_neg h13]⟩
    · skip
      refine x_ldcK0 18 C dX0_write_16 rfl ?_
      refine x_goto 23 C dX0_write_18 (by decide) ?_
      exact hJ23 0 ⟨by omega, by rw [if_pos h13]⟩
