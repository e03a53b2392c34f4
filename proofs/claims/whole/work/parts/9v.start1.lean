/-! the law's start: both objects, the row of one long number, the empty world -/
/-- kinds that are new are those of lists and of the program's own objects -/
def rkNk (G G' : GT) : Prop := ∀ x, gK G' x = gK G x ∨ gK G' x < 15 ∨ gK G' x = 20
theorem rkNk_tr {G G1 G2 : GT} (h : rkNk G G1) (k : rkNk G1 G2) : rkNk G G2 := fun x => by
  have a := h x
  have b := k x
  omega
theorem rkNk_step {G : GT} {x q f : Nat} : rkNk G (sP (sL (sK G q 20) q []) f x (some q)) := fun y => by
  by_cases h : y = q
  · exact Or.inr (Or.inr (show va_up (gK G) q 20 y = 20 from if_pos h))
  · exact Or.inl (show va_up (gK G) q 20 y = _ from if_neg h)
theorem rkNk_nO {G : GT} {q k : Nat} (hk : k < 15) : rkNk G (nO G q k) := fun y => by
  by_cases h : y = q
  · exact Or.inr (Or.inl (by rw [show gK (nO G q k) y = k from if_pos h]; exact hk))
  · exact Or.inl (show va_up (gK G) q k y = _ from if_neg h)
theorem rkNk_obj {G : GT} {x q a f g k : Nat} (hk : k < 15) : rkNk G (sP (sP (sL (sK (nO G q k) a 20) a []) g q (some a)) f x (some q)) := fun y => by
  by_cases h : y = a
  · exact Or.inr (Or.inr (show va_up (gK (nO G q k)) a 20 y = 20 from if_pos h))
  · have e : gK (sP (sP (sL (sK (nO G q k) a 20) a []) g q (some a)) f x (some q)) y = gK (nO G q k) y := (show va_up (gK (nO G q k)) a 20 y = _ from if_neg h)
    rw [e]
    exact rkNk_nO hk y
set_option maxHeartbeats 2000000 in
set_option maxRecDepth 100000 in
theorem c_X11_init2 {E : EV} {l : Launch} {G : GT} {x : Nat} (hk : gK G x = 14) : MT E l yX11_init cX11_init 1 none 5 92 9 25 [.ref x] (G) (fun v G' => v = none ∧ ∃ B : Nat → Nat, B 0 = x ∧ rkB G' B ∧ rkEm G' B ∧ rkFr [1400, 1401, 1402, 1403, 1404, 1405, 1406] [] G G' ∧ rkNk G G') := by
  refine mt_of (own := RX11) (L := [some (.ref x)]) (by decide +kernel) rfl (Nat.le_of_ble_eq_true rfl) (List.forall_mem_cons.mpr ⟨rfl, (fun _ h => absurd h List.not_mem_nil)⟩) rfl ?_
  intro p e s m args below meth c C hin
  refine x_wf (fun hw => ?_)
  refine x_aload_n 1 C dX11_init_0 rfl rfl ?_
  refine x_objInit 4 C ob_X11_1 ⟨Nat.le_of_ble_eq_true rfl, Nat.le_of_ble_eq_true rfl⟩ dX11_init_1 rfl ?_
  refine x_aload_n 5 C dX11_init_4 rfl rfl ?_
  refine x_newL (kc0 := 8) (ks0 := 22) 12 C nwd_X11_7 vw_X11_9 iw_Jx4a65c_init_da8c8 dX11_init_5 dX11_init_8 dX11_init_9 rfl ⟨Nat.le_of_ble_eq_true rfl, Nat.le_of_ble_eq_true rfl⟩ (Nat.le_of_ble_eq_true rfl) ⟨by omega, by omega⟩ (fun q5 hq5 => ?_)
  have hz1 : gK G q5 = 0 := hq5
  have kx1 : gK (sL (sK G q5 20) q5 []) x = 14 := (if_neg (fun z => by (rw [← z] at hz1; omega))).trans hk
  refine x_putO 15 1400 C fw_X11_10 (fun _ => hin) dX11_init_12 rfl rfl rfl rfl (by assumption) ?_
  obtain ⟨A1, hA1⟩ : ∃ z : GT, z = sP (sL (sK G q5 20) q5 []) 1400 x (some q5) := ⟨_, rfl⟩
  refine x_as (G' := A1) hA1 rfl rfl ?_
  obtain ⟨f1, k1, l1, p1⟩ := rkIn_step (f := 1400) (x := x) (show gK G x ≠ 0 by omega) hz1 (by decide)
  rw [← hA1] at f1 k1 l1 p1
  have kA1 : gK A1 x = 14 := (f1.1 x (by omega)).trans hk
  refine x_aload_n 16 C dX11_init_15 rfl rfl ?_
  refine x_newL (kc0 := 7) (ks0 := 19) 23 C nwd_X11_7 vw_X11_9 iw_Jx4a65c_init_da8c8 dX11_init_16 dX11_init_19 dX11_init_20 rfl ⟨Nat.le_of_ble_eq_true rfl, Nat.le_of_ble_eq_true rfl⟩ (Nat.le_of_ble_eq_true rfl) ⟨by omega, by omega⟩ (fun q16 hq16 => ?_)
  have hz2 : gK A1 q16 = 0 := hq16
  have kx2 : gK (sL (sK A1 q16 20) q16 []) x = 14 := (if_neg (fun z => by (rw [← z] at hz2; omega))).trans kA1
  refine x_putO 26 1401 C fw_X11_16 (fun _ => hin) dX11_init_23 rfl rfl rfl rfl (by assumption) ?_
  obtain ⟨A2, hA2⟩ : ∃ z : GT, z = sP (sL (sK A1 q16 20) q16 []) 1401 x (some q16) := ⟨_, rfl⟩
  refine x_as (G' := A2) hA2 rfl rfl ?_
  obtain ⟨f2, k2, l2, p2⟩ := rkIn_step (f := 1401) (x := x) (show gK A1 x ≠ 0 by omega) hz2 (by decide)
  rw [← hA2] at f2 k2 l2 p2
  have kA2 : gK A2 x = 14 := (f2.1 x (by omega)).trans kA1
  refine x_aload_n 27 C dX11_init_26 rfl rfl ?_
  refine x_newL (kc0 := 6) (ks0 := 16) 34 C nwd_X11_7 vw_X11_9 iw_Jx4a65c_init_da8c8 dX11_init_27 dX11_init_30 dX11_init_31 rfl ⟨Nat.le_of_ble_eq_true rfl, Nat.le_of_ble_eq_true rfl⟩ (Nat.le_of_ble_eq_true rfl) ⟨by omega, by omega⟩ (fun q27 hq27 => ?_)
  have hz3 : gK A2 q27 = 0 := hq27
  have kx3 : gK (sL (sK A2 q27 20) q27 []) x = 14 := (if_neg (fun z => by (rw [← z] at hz3; omega))).trans kA2
  refine x_putO 37 1402 C fw_X11_19 (fun _ => hin) dX11_init_34 rfl rfl rfl rfl (by assumption) ?_
  obtain ⟨A3, hA3⟩ : ∃ z : GT, z = sP (sL (sK A2 q27 20) q27 []) 1402 x (some q27) := ⟨_, rfl⟩
  refine x_as (G' := A3) hA3 rfl rfl ?_
  obtain ⟨f3, k3, l3, p3⟩ := rkIn_step (f := 1402) (x := x) (show gK A2 x ≠ 0 by omega) hz3 (by decide)
  rw [← hA3] at f3 k3 l3 p3
  have kA3 : gK A3 x = 14 := (f3.1 x (by omega)).trans kA2
  refine x_aload_n 38 C dX11_init_37 rfl rfl ?_
  refine x_newL (kc0 := 5) (ks0 := 13) 45 C nwd_X11_7 vw_X11_9 iw_Jx4a65c_init_da8c8 dX11_init_38 dX11_init_41 dX11_init_42 rfl ⟨Nat.le_of_ble_eq_true rfl, Nat.le_of_ble_eq_true rfl⟩ (Nat.le_of_ble_eq_true rfl) ⟨by omega, by omega⟩ (fun q38 hq38 => ?_)
  have hz4 : gK A3 q38 = 0 := hq38
  have kx4 : gK (sL (sK A3 q38 20) q38 []) x = 14 := (if_neg (fun z => by (rw [← z] at hz4; omega))).trans kA3
  refine x_putO 48 1403 C fw_X11_22 (fun _ => hin) dX11_init_45 rfl rfl rfl rfl (by assumption) ?_
  obtain ⟨A4, hA4⟩ : ∃ z : GT, z = sP (sL (sK A3 q38 20) q38 []) 1403 x (some q38) := ⟨_, rfl⟩
  refine x_as (G' := A4) hA4 rfl rfl ?_
  obtain ⟨f4, k4, l4, p4⟩ := rkIn_step (f := 1403) (x := x) (show gK A3 x ≠ 0 by omega) hz4 (by decide)
  rw [← hA4] at f4 k4 l4 p4
  have kA4 : gK A4 x = 14 := (f4.1 x (by omega)).trans kA3
  refine x_aload_n 49 C dX11_init_48 rfl rfl ?_
  refine x_newL (kc0 := 4) (ks0 := 10) 56 C nwd_X11_7 vw_X11_9 iw_Jx4a65c_init_da8c8 dX11_init_49 dX11_init_52 dX11_init_53 rfl ⟨Nat.le_of_ble_eq_true rfl, Nat.le_of_ble_eq_true rfl⟩ (Nat.le_of_ble_eq_true rfl) ⟨by omega, by omega⟩ (fun q49 hq49 => ?_)
  have hz5 : gK A4 q49 = 0 := hq49
  have kx5 : gK (sL (sK A4 q49 20) q49 []) x = 14 := (if_neg (fun z => by (rw [← z] at hz5; omega))).trans kA4
  refine x_putO 59 1404 C fw_X11_25 (fun _ => hin) dX11_init_56 rfl rfl rfl rfl (by assumption) ?_
  obtain ⟨A5, hA5⟩ : ∃ z : GT, z = sP (sL (sK A4 q49 20) q49 []) 1404 x (some q49) := ⟨_, rfl⟩
  refine x_as (G' := A5) hA5 rfl rfl ?_
  obtain ⟨f5, k5, l5, p5⟩ := rkIn_step (f := 1404) (x := x) (show gK A4 x ≠ 0 by omega) hz5 (by decide)
  rw [← hA5] at f5 k5 l5 p5
  have kA5 : gK A5 x = 14 := (f5.1 x (by omega)).trans kA4
  refine x_aload_n 60 C dX11_init_59 rfl rfl ?_
  refine x_new (kc0 := 3) (ks0 := 8) 63 9 C nwd_X11_28 rfl rfl dX11_init_60 rfl ⟨by omega, by omega⟩ (fun q60 hq60 => ?_)
  have hz6 : gK A5 q60 = 0 := hq60
  have kn6 : gK (nO A5 q60 9) q60 = 9 := nO_q
  refine x_dup 64 C dX11_init_63 rfl rfl ?_
  refine x_callI (As := []) 67 2 5 C vw_X11_30 iw_X6_init rfl (c_X6_init kn6) dX11_init_64 rfl rfl rfl ⟨Nat.le_of_ble_eq_true rfl, Nat.le_of_ble_eq_true rfl⟩ (Nat.le_of_ble_eq_true rfl) ⟨by omega, by omega⟩ (fun v G' hq => ?_)
  obtain ⟨rfl, a6, ha6, hG9⟩ := hq
  subst hG9
  refine x_as rfl rfl rfl ?_
  have kx6 : gK (sP (sL (sK (nO A5 q60 9) a6 20) a6 []) 900 q60 (some a6)) x = 14 := (if_neg (fun z => by (rw [← z, nO_K (by omega) hz6] at ha6; omega))).trans ((nO_K (by omega) hz6).trans kA5)
  refine x_putO 70 1405 C fw_X11_31 (fun _ => hin) dX11_init_67 rfl rfl rfl rfl (by assumption) ?_
  obtain ⟨A6, hA6⟩ : ∃ z : GT, z = sP (sP (sL (sK (nO A5 q60 9) a6 20) a6 []) 900 q60 (some a6)) 1405 x (some q60) := ⟨_, rfl⟩
  refine x_as (G' := A6) hA6 rfl rfl ?_
  obtain ⟨f6, k6, k6b, l6, p6, p6b, o6⟩ := rkIn_obj (f := 1405) (g := 900) (x := x) (show gK A5 x ≠ 0 by omega) hz6 ha6 (by decide) (by decide) (by decide)
  rw [← hA6] at f6 k6 k6b l6 p6 p6b o6
  have kA6 : gK A6 x = 14 := (f6.1 x (by omega)).trans kA5
  refine x_aload_n 71 C dX11_init_70 rfl rfl ?_
  refine x_new (kc0 := 1) (ks0 := 3) 74 11 C nwd_X11_35 rfl rfl dX11_init_71 rfl ⟨by omega, by omega⟩ (fun q71 hq71 => ?_)
  have hz7 : gK A6 q71 = 0 := hq71
  have kn7 : gK (nO A6 q71 11) q71 = 11 := nO_q
  refine x_dup 75 C dX11_init_74 rfl rfl ?_
  refine x_callI (As := []) 78 0 0 C vw_X11_37 iw_X8_init rfl (c_X8_init kn7) dX11_init_75 rfl rfl rfl ⟨Nat.le_of_ble_eq_true rfl, Nat.le_of_ble_eq_true rfl⟩ (Nat.le_of_ble_eq_true rfl) ⟨by omega, by omega⟩ (fun v G' hq => ?_)
  obtain ⟨rfl, a7, ha7, hG9⟩ := hq
  subst hG9
  refine x_as rfl rfl rfl ?_
  have kx7 : gK (sP (sL (sK (nO A6 q71 11) a7 20) a7 []) 1100 q71 (some a7)) x = 14 := (if_neg (fun z => by (rw [← z, nO_K (by omega) hz7] at ha7; omega))).trans ((nO_K (by omega) hz7).trans kA6)
  refine x_putO 81 1406 C fw_X11_38 (fun _ => hin) dX11_init_78 rfl rfl rfl rfl (by assumption) ?_
  obtain ⟨A7, hA7⟩ : ∃ z : GT, z = sP (sP (sL (sK (nO A6 q71 11) a7 20) a7 []) 1100 q71 (some a7)) 1406 x (some q71) := ⟨_, rfl⟩
  refine x_as (G' := A7) hA7 rfl rfl ?_
  obtain ⟨f7, k7, k7b, l7, p7, p7b, o7⟩ := rkIn_obj (f := 1406) (g := 1100) (x := x) (show gK A6 x ≠ 0 by omega) hz7 ha7 (by decide) (by decide) (by decide)
  rw [← hA7] at f7 k7 k7b l7 p7 p7b o7
  have kA7 : gK A7 x = 14 := (f7.1 x (by omega)).trans kA6
  exact x_ret C dX11_init_81 (by have k1_2 : gK A2 q5 = 20 := (f2.1 q5 (by omega)).trans k1; have l1_2 : gL A2 q5 = [] := (f2.2.2.1 q5 (by omega) List.not_mem_nil).trans l1; have k1_3 : gK A3 q5 = 20 := (f3.1 q5 (by omega)).trans k1_2; have l1_3 : gL A3 q5 = [] := (f3.2.2.1 q5 (by omega) List.not_mem_nil).trans l1_2; have k1_4 : gK A4 q5 = 20 := (f4.1 q5 (by omega)).trans k1_3; have l1_4 : gL A4 q5 = [] := (f4.2.2.1 q5 (by omega) List.not_mem_nil).trans l1_3; have k1_5 : gK A5 q5 = 20 := (f5.1 q5 (by omega)).trans k1_4; have l1_5 : gL A5 q5 = [] := (f5.2.2.1 q5 (by omega) List.not_mem_nil).trans l1_4; have k1_6 : gK A6 q5 = 20 := (f6.1 q5 (by omega)).trans k1_5; have l1_6 : gL A6 q5 = [] := (f6.2.2.1 q5 (by omega) List.not_mem_nil).trans l1_5; have k1_7 : gK A7 q5 = 20 := (f7.1 q5 (by omega)).trans k1_6; have l1_7 : gL A7 q5 = [] := (f7.2.2.1 q5 (by omega) List.not_mem_nil).trans l1_6; have k2_3 : gK A3 q16 = 20 := (f3.1 q16 (by omega)).trans k2; have l2_3 : gL A3 q16 = [] := (f3.2.2.1 q16 (by omega) List.not_mem_nil).trans l2; have k2_4 : gK A4 q16 = 20 := (f4.1 q16 (by omega)).trans k2_3; have l2_4 : gL A4 q16 = [] := (f4.2.2.1 q16 (by omega) List.not_mem_nil).trans l2_3; have k2_5 : gK A5 q16 = 20 := (f5.1 q16 (by omega)).trans k2_4; have l2_5 : gL A5 q16 = [] := (f5.2.2.1 q16 (by omega) List.not_mem_nil).trans l2_4; have k2_6 : gK A6 q16 = 20 := (f6.1 q16 (by omega)).trans k2_5; have l2_6 : gL A6 q16 = [] := (f6.2.2.1 q16 (by omega) List.not_mem_nil).trans l2_5; have k2_7 : gK A7 q16 = 20 := (f7.1 q16 (by omega)).trans k2_6; have l2_7 : gL A7 q16 = [] := (f7.2.2.1 q16 (by omega) List.not_mem_nil).trans l2_6; have k3_4 : gK A4 q27 = 20 := (f4.1 q27 (by omega)).trans k3; have l3_4 : gL A4 q27 = [] := (f4.2.2.1 q27 (by omega) List.not_mem_nil).trans l3; have k3_5 : gK A5 q27 = 20 := (f5.1 q27 (by omega)).trans k3_4; have l3_5 : gL A5 q27 = [] := (f5.2.2.1 q27 (by omega) List.not_mem_nil).trans l3_4; have k3_6 : gK A6 q27 = 20 := (f6.1 q27 (by omega)).trans k3_5; have l3_6 : gL A6 q27 = [] := (f6.2.2.1 q27 (by omega) List.not_mem_nil).trans l3_5; have k3_7 : gK A7 q27 = 20 := (f7.1 q27 (by omega)).trans k3_6; have l3_7 : gL A7 q27 = [] := (f7.2.2.1 q27 (by omega) List.not_mem_nil).trans l3_6; have k4_5 : gK A5 q38 = 20 := (f5.1 q38 (by omega)).trans k4; have l4_5 : gL A5 q38 = [] := (f5.2.2.1 q38 (by omega) List.not_mem_nil).trans l4; have k4_6 : gK A6 q38 = 20 := (f6.1 q38 (by omega)).trans k4_5; have l4_6 : gL A6 q38 = [] := (f6.2.2.1 q38 (by omega) List.not_mem_nil).trans l4_5; have k4_7 : gK A7 q38 = 20 := (f7.1 q38 (by omega)).trans k4_6; have l4_7 : gL A7 q38 = [] := (f7.2.2.1 q38 (by omega) List.not_mem_nil).trans l4_6; have k5_6 : gK A6 q49 = 20 := (f6.1 q49 (by omega)).trans k5; have l5_6 : gL A6 q49 = [] := (f6.2.2.1 q49 (by omega) List.not_mem_nil).trans l5; have k5_7 : gK A7 q49 = 20 := (f7.1 q49 (by omega)).trans k5_6; have l5_7 : gL A7 q49 = [] := (f7.2.2.1 q49 (by omega) List.not_mem_nil).trans l5_6; have k6b_7 : gK A7 a6 = 20 := (f7.1 a6 (by omega)).trans k6b; have l6_7 : gL A7 a6 = [] := (f7.2.2.1 a6 (by omega) List.not_mem_nil).trans l6; have k6_7 : gK A7 q60 = 9 := (f7.1 q60 (by omega)).trans k6; have p1_2 := ((f2.2.1 1400 x (by omega) (by decide)).2).trans p1; have p1_3 := ((f3.2.1 1400 x (by omega) (by decide)).2).trans p1_2; have p1_4 := ((f4.2.1 1400 x (by omega) (by decide)).2).trans p1_3; have p1_5 := ((f5.2.1 1400 x (by omega) (by decide)).2).trans p1_4; have p1_6 := ((f6.2.1 1400 x (by omega) (by decide)).2).trans p1_5; have p1_7 := ((f7.2.1 1400 x (by omega) (by decide)).2).trans p1_6; have p2_3 := ((f3.2.1 1401 x (by omega) (by decide)).2).trans p2; have p2_4 := ((f4.2.1 1401 x (by omega) (by decide)).2).trans p2_3; have p2_5 := ((f5.2.1 1401 x (by omega) (by decide)).2).trans p2_4; have p2_6 := ((f6.2.1 1401 x (by omega) (by decide)).2).trans p2_5; have p2_7 := ((f7.2.1 1401 x (by omega) (by decide)).2).trans p2_6; have p3_4 := ((f4.2.1 1402 x (by omega) (by decide)).2).trans p3; have p3_5 := ((f5.2.1 1402 x (by omega) (by decide)).2).trans p3_4; have p3_6 := ((f6.2.1 1402 x (by omega) (by decide)).2).trans p3_5; have p3_7 := ((f7.2.1 1402 x (by omega) (by decide)).2).trans p3_6; have p4_5 := ((f5.2.1 1403 x (by omega) (by decide)).2).trans p4; have p4_6 := ((f6.2.1 1403 x (by omega) (by decide)).2).trans p4_5; have p4_7 := ((f7.2.1 1403 x (by omega) (by decide)).2).trans p4_6; have p5_6 := ((f6.2.1 1404 x (by omega) (by decide)).2).trans p5; have p5_7 := ((f7.2.1 1404 x (by omega) (by decide)).2).trans p5_6; have p6b_7 := ((f7.2.1 1405 x (by omega) (by decide)).2).trans p6b; have p6_7 := ((f7.2.1 900 q60 (by omega) (by decide)).2).trans p6; exact ⟨rfl, (fun n => [x, q5, q16, q27, q38, q49, q60, q71, a6, a7].getD n 0), rfl, ⟨⟨kA7, k6_7, k7⟩, ⟨k1_7, k2_7, k3_7, k4_7, k5_7, k6b_7, k7b⟩, ⟨p1_7, p2_7, p3_7, p4_7, p5_7, p6b_7, p7b, p6_7, p7⟩, ⟨(fun z => by (have z0 : q5 = q16 := z; have z1 := k1; rw [z0] at z1; omega)), (fun z => by (have z0 : q5 = q27 := z; have z1 := k1_2; rw [z0] at z1; omega)), (fun z => by (have z0 : q5 = q38 := z; have z1 := k1_3; rw [z0] at z1; omega)), (fun z => by (have z0 : q5 = q49 := z; have z1 := k1_4; rw [z0] at z1; omega)), (fun z => by (have z0 : q5 = a6 := z; have z1 := k1_5; rw [z0] at z1; have z2 := ha6; rw [nO_K (by omega) hz6] at z2; omega)), (fun z => by (have z0 : q5 = a7 := z; have z1 := k1_6; rw [z0] at z1; have z2 := ha7; rw [nO_K (by omega) hz7] at z2; omega)), (fun z => by (have z0 : q16 = q27 := z; have z1 := k2; rw [z0] at z1; omega)), (fun z => by (have z0 : q16 = q38 := z; have z1 := k2_3; rw [z0] at z1; omega)), (fun z => by (have z0 : q16 = q49 := z; have z1 := k2_4; rw [z0] at z1; omega)), (fun z => by (have z0 : q16 = a6 := z; have z1 := k2_5; rw [z0] at z1; have z2 := ha6; rw [nO_K (by omega) hz6] at z2; omega)), (fun z => by (have z0 : q16 = a7 := z; have z1 := k2_6; rw [z0] at z1; have z2 := ha7; rw [nO_K (by omega) hz7] at z2; omega)), (fun z => by (have z0 : q27 = q38 := z; have z1 := k3; rw [z0] at z1; omega)), (fun z => by (have z0 : q27 = q49 := z; have z1 := k3_4; rw [z0] at z1; omega)), (fun z => by (have z0 : q27 = a6 := z; have z1 := k3_5; rw [z0] at z1; have z2 := ha6; rw [nO_K (by omega) hz6] at z2; omega)), (fun z => by (have z0 : q27 = a7 := z; have z1 := k3_6; rw [z0] at z1; have z2 := ha7; rw [nO_K (by omega) hz7] at z2; omega)), (fun z => by (have z0 : q38 = q49 := z; have z1 := k4; rw [z0] at z1; omega)), (fun z => by (have z0 : q38 = a6 := z; have z1 := k4_5; rw [z0] at z1; have z2 := ha6; rw [nO_K (by omega) hz6] at z2; omega)), (fun z => by (have z0 : q38 = a7 := z; have z1 := k4_6; rw [z0] at z1; have z2 := ha7; rw [nO_K (by omega) hz7] at z2; omega)), (fun z => by (have z0 : q49 = a6 := z; have z1 := k5; rw [z0] at z1; have z2 := ha6; rw [nO_K (by omega) hz6] at z2; omega)), (fun z => by (have z0 : q49 = a7 := z; have z1 := k5_6; rw [z0] at z1; have z2 := ha7; rw [nO_K (by omega) hz7] at z2; omega)), (fun z => by (have z0 : a6 = a7 := z; have z1 := k6b; rw [z0] at z1; have z2 := ha7; rw [nO_K (by omega) hz7] at z2; omega))⟩⟩, ⟨l1_7, l2_7, l3_7, l4_7, l5_7, l6_7, l7, ((f7.2.1 901 q60 (by omega) (by decide)).1).trans (o6 901 rfl), o7 1101 rfl⟩, fr_tr (fr_wide f1 (fun k z => by simp at z; simp [z]) (fun k z => z)) (fr_tr (fr_wide f2 (fun k z => by simp at z; simp [z]) (fun k z => z)) (fr_tr (fr_wide f3 (fun k z => by simp at z; simp [z]) (fun k z => z)) (fr_tr (fr_wide f4 (fun k z => by simp at z; simp [z]) (fun k z => z)) (fr_tr (fr_wide f5 (fun k z => by simp at z; simp [z]) (fun k z => z)) (fr_tr (fr_wide f6 (fun k z => by simp at z; simp [z]) (fun k z => z)) (fr_wide f7 (fun k z => by simp at z; simp [z]) (fun k z => z))))))), rkNk_tr (show rkNk G A1 by rw [hA1]; exact rkNk_step) (rkNk_tr (show rkNk A1 A2 by rw [hA2]; exact rkNk_step) (rkNk_tr (show rkNk A2 A3 by rw [hA3]; exact rkNk_step) (rkNk_tr (show rkNk A3 A4 by rw [hA4]; exact rkNk_step) (rkNk_tr (show rkNk A4 A5 by rw [hA5]; exact rkNk_step) (rkNk_tr (show rkNk A5 A6 by rw [hA6]; exact rkNk_obj (by decide)) ((show rkNk A6 A7 by rw [hA7]; exact rkNk_obj (by decide))))))))⟩)
theorem nwd_L_8 : NWd RL 8 14 RX11 10 [.null, .null, .null, .null, .null, .null, .null, .int 0, .int 0, .int 0] := ⟨TX11, tyX11, rfl, cw_14, tyX11_ok, aw_i 125 (by decide +kernel) rfl, aw_i 126 (by decide +kernel) rfl, aw_i 90 (by decide +kernel) rfl, fun j hj => by rcases j with _ | _ | _ | _ | _ | _ | _ | _ | _ | _ | j <;> first | rfl | omega⟩
theorem nwd_L_81 : NWd RL 81 15 RX12 72 [.int 0, .int 0, .int 0, .int 0, .null, .null, .null, .int 0, .null, .null, .null, .null, .null, .null, .null, .null, .null, .null, .null, .null, .null, .null, .null, .null, .int 0, .null, .null, .null, .int 0, .null, .null, .null, .null, .null, .int 0, .null, .null, .null, .null, .null, .null, .null, .null, .null, .int 0, .int 0, .null, .null, .null, .null, .null, .null, .null, .int 0, .int 0, .null, .null, .null, .null, .null, .null, .int 0, .int 0, .int 0, .int 0, .int 0, .int 0, .int 0, .int 0, .int 0, .null, .int 0] := ⟨TX12, tyX12, rfl, cw_15, tyX12_ok, aw_i 1437 (by decide +kernel) rfl, aw_i 1438 (by decide +kernel) rfl, aw_i 96 (by decide +kernel) rfl, fun j hj => by rcases j with _ | _ | _ | _ | _ | _ | _ | _ | _ | _ | _ | _ | _ | _ | _ | _ | _ | _ | _ | _ | _ | _ | _ | _ | _ | _ | _ | _ | _ | _ | _ | _ | _ | _ | _ | _ | _ | _ | _ | _ | _ | _ | _ | _ | _ | _ | _ | _ | _ | _ | _ | _ | _ | _ | _ | _ | _ | _ | _ | _ | _ | _ | _ | _ | _ | _ | _ | _ | _ | _ | _ | _ | j <;> first | rfl | omega⟩
/-- no rows, no numbers -/
def rk00 : RT := fun _ _ => 0
theorem rk00_n {k j : Nat} {P : Prop} (h : (j : Int) < rk00 k 0) : P := absurd h (by show ¬ (j : Int) < 0; omega)
theorem rk00_i {k : Nat} {i : Int} {P : Prop} (h0 : 0 ≤ i) (h : i < rk00 k 0) : P := absurd h (by show ¬ i < 0; omega)
theorem rk00_z {k j : Nat} : rk00 k j = 0 := rfl
theorem rk00_in : ∀ k j, InR (rk00 k j) := fun k j => ⟨by rw [rk00_z]; decide, by rw [rk00_z]; decide⟩
theorem rk00_I : rkI rk00 := ⟨⟨⟨by decide, by decide⟩, fun j h => rk00_n h⟩, ⟨by decide, by decide⟩, fun j h => rk00_n h, fun j h => rk00_n h, ⟨⟨by decide, by decide⟩, fun j h => rk00_n h⟩, fun j h => rk00_n h, rk00_in, ⟨fun i j h => rk00_n h, fun i j h => rk00_n h, fun i h => rk00_n h⟩⟩
theorem rk00_RC : RC rk00 := ⟨⟨by decide, by decide⟩, fun j h => rk00_n h⟩
section EMPTY
variable {G : GT} {B : Nat → Nat}
theorem rk00_Z (hB : rkB G B) (hE : rkEm G B) (h7 : gI G 1407 (B 0) = 0) (h8 : gI G 1408 (B 0) = 0) (h9 : gI G 1409 (B 0) = 0) : rkZ G B rk00 := by
  obtain ⟨e1, e2, e3, e4, e5, e8, e9, e10, e11⟩ := hE
  refine ⟨⟨hB, ⟨by rw [e1]; rfl, fun i a b => rk00_i a b⟩, ⟨by rw [e2]; rfl, fun i a b => rk00_i a b⟩, ⟨by rw [e3]; rfl, fun i a b => rk00_i a b⟩, rk00_I⟩, ?_, ?_, ?_, ?_, h7, h8, h9⟩
  · exact ⟨by rw [e8]; rfl, fun i a b => rk00_i a b, fun i j a b => rk00_i a.1 a.2, fun i j a b => rk00_i a.1 a.2, ⟨by rw [e10]; decide, by rw [e10]; decide⟩, fun i a b => rk00_i a b⟩
  · exact ⟨rk00_RC, fun i j h => rk00_n h, fun i j h => rk00_n h, rk00_in⟩
  · exact ⟨⟨fun i => i, fun i => i, by rw [e9]; rfl, fun p a b => rk00_i a b, fun p a b => rk00_i a b, fun p q a b c => rk00_i (k := 44) (i := q) (by omega) c⟩, ⟨⟨by decide, by decide⟩, fun i h => rk00_n h, fun i j h => rk00_n h⟩, by rw [e11]; rfl⟩
  · refine ⟨by rw [e5]; decide, by rw [e5]; exact List.nodup_nil, fun x h => ?_, fun k a b => rk00_i a b, fun x h => ?_, by decide, fun i h => rk00_n h, fun i j h => rk00_n h⟩
    · rw [e5] at h; exact absurd h List.not_mem_nil
    · rw [e5] at h; exact absurd h List.not_mem_nil
theorem rk00_Ps (hE : rkEm G B) : rkPs G B rk00 := ⟨⟨by rw [hE.2.2.2.1]; rfl, fun r a b => rk00_i a b⟩, fun r a b => rk00_i a b⟩
theorem rk00_Inv : rkInv rk00 0 := by
  refine ⟨⟨rk00_RC, ⟨⟨by decide, by decide⟩, fun j => by rw [rk00_z]; decide⟩, by decide, ⟨by decide, by decide⟩, ⟨by decide, by decide⟩, ⟨by decide, by decide⟩, ⟨by decide, by decide⟩, ⟨by decide, by decide⟩, fun j => ⟨by rw [rk00_z]; decide, by rw [rk00_z]; decide⟩⟩, ⟨⟨by decide, by decide⟩, fun j h => rk00_n h, fun j => ⟨by rw [rk00_z]; decide, by rw [rk00_z]; decide⟩⟩, ⟨fun f j _ _ => rk00_z, fun j _ => rk00_z⟩, fun j => ⟨⟨by rw [rk00_z]; decide, by rw [rk00_z]; decide⟩, ⟨by rw [rk00_z]; decide, by rw [rk00_z]; decide⟩⟩, by decide⟩
end EMPTY
/-- what holds between the calls of the law, of its whole state -/
def rkLw (G : GT) (B : Nat → Nat) (o out : Nat) (n : Int) : Prop := RM G o ∧ gK G out = 26 ∧ rkZ G B (gR G) ∧ rkPs G B (gR G) ∧ rkInv (gR G) n
theorem rkMd_RM {G0 G : GT} {o : Nat} (h : rkMd G0 G o 71) : RM G o := ⟨h.2.1, fun k hk hs => by
  by_cases c : k = 71
  · subst c; exact absurd hs (by decide)
  · exact h.2.2.2.1 k (by omega) hs⟩
section FMK
variable {G G' : GT} {B : Nat → Nat} {o : Nat}
theorem rkFm_B (f1 : ∀ x, gK G x ≠ 0 → gK G' x = gK G x) (f3 : ∀ i x, i < 1500 → gP G' i x = gP G i x) (hB : rkB G B) : rkB G' B := by
  obtain ⟨⟨b1, b2, b3⟩, ⟨c1, c2, c3, c4, c5, c6, c7⟩, ⟨d1, d2, d3, d4, d5, d6, d7, d8, d9⟩, hn⟩ := hB
  refine ⟨⟨?_, ?_, ?_⟩, ⟨?_, ?_, ?_, ?_, ?_, ?_, ?_⟩, ⟨?_, ?_, ?_, ?_, ?_, ?_, ?_, ?_, ?_⟩, hn⟩
  all_goals first
    | (rw [f3 _ _ (by decide)]; assumption)
    | (rw [f1 _ (by omega)]; assumption)
theorem rkFm_Em (f2 : gI G' = gI G) (f4 : gL G' = gL G) (hE : rkEm G B) : rkEm G' B := by
  unfold rkEm
  rw [f4, f2]
  exact hE
end FMK
section LBEG
variable {E : EV} {p : Program} {l : Launch} {e : Env} {R : Room} {s : State} {m : MethodId} {args : Array Value} {below : List Frame} {meth : Method} {c : Code} {mc ms : Nat} {ret : Option FieldType} {Q : State → Prop} {G : GT} {kc ks : Nat}
set_option maxHeartbeats 2000000 in
set_option maxRecDepth 100000 in
theorem lw_begin {bS kc0 ks0 : Nat} (C : CX E p R s m args meth c cL_law 7 RL mc ms ret) (hRm : 12 ≤ R.frames ∧ 400 ≤ R.locals) (hk : kc0 + 62 ≤ kc ∧ ks0 + 5698 ≤ ks) (h0 : ∀ x, gK G x = 0) (hR0 : ∀ i j, gR G i j = 0)
    (k : ∀ (G' : GT) (B : Nat → Nat) (o out : Nat), rkLw G' B o out 0 → XW E p l e R s m args below meth c 7 mc ms Q G' kc0 ks0 23 [some (.ref bS), some (.ref (B 0)), some (.ref o), some (.ref out), some (.int (i32 0)), none, none] []) : XW E p l e R s m args below meth c 7 mc ms Q G kc ks 0 [some (.ref bS), none, none, none, none, none, none] [] := by
  refine x_new (kc0 := kc0 + 61) (ks0 := ks0 + 5688) 3 14 C nwd_L_8 rfl rfl dL_law_0 rfl ⟨by omega, by omega⟩ (fun x hx => ?_)
  refine x_dup 4 C dL_law_3 rfl rfl ?_
  have kx : gK (nO G x 14) x = 14 := nO_q
  refine x_callI (As := []) 7 (kc0 + 52) (ks0 + 5663) C vw_L_80 iw_X11_init rfl (c_X11_init2 kx) dL_law_4 rfl rfl rfl ⟨by omega, by omega⟩ (Nat.le_of_ble_eq_true rfl) ⟨by omega, by omega⟩ (fun v G1 hq => ?_)
  obtain ⟨rfl, B, rfl, hB, hE, hF, hN⟩ := hq
  refine x_as rfl rfl rfl ?_
  refine x_astore_n 8 C dL_law_7 rfl rfl rfl ?_
  have hR1 : ∀ i j, gR G1 i j = 0 := fun i j => by rw [hF.2.2.2.1]; exact hR0 i j
  have hK1 : ∀ y, gK G1 y < 15 ∨ gK G1 y = 20 := fun y => by
    have a := hN y
    have b : gK (nO G (B 0) 14) y = 0 ∨ gK (nO G (B 0) 14) y < 15 := by
      have := rkNk_nO (G := G) (q := B 0) (k := 14) (by decide) y
      have := h0 y
      by_cases cy : y = B 0
      · exact Or.inr (by rw [cy, kx]; decide)
      · exact Or.inl ((show gK (nO G (B 0) 14) y = gK G y from if_neg cy).trans (h0 y))
    omega
  have hI7 : ∀ f, 1407 ≤ f → f < 1410 → gI G1 f (B 0) = 0 := fun f a b => ((hF.2.1 f (B 0) (by rw [kx]; decide) (by simp; omega)).1).trans (nO_I0 (by omega))
  refine x_newM (kc0 := kc0 + 51) (ks0 := ks0 + 5591) 11 C nwd_L_81 (by decide) dL_law_8 rfl ⟨by omega, by omega⟩ (fun y => by have := hK1 y; omega) hR1 (fun o ho => ?_)
  refine x_dup 12 C dL_law_11 rfl rfl ?_
  have hm0 : rkMd G1 (nM G1 o) o 0 := by
    refine ⟨⟨fun y hy => if_neg (fun z => hy (by rw [z]; exact ho)), rfl, fun i y hi => if_neg (fun z => by have := z.2; omega), rfl, rfl, rfl⟩, if_pos rfl, hR1, fun j hj => absurd hj (Nat.not_lt_zero _), fun j hj y => ?_⟩
    by_cases cy : y = o
    · rw [show gK (nM G1 o) y = 15 from if_pos cy]; omega
    · rw [show gK (nM G1 o) y = gK G1 y from if_neg cy]
      have := hK1 y
      omega
  refine x_callI (As := []) 15 (kc0 + 1) (ks0 + 1) C vw_L_83 iw_X12_init rfl (c_X12_init hm0) dL_law_12 rfl rfl rfl ⟨by omega, by omega⟩ (Nat.le_of_ble_eq_true rfl) ⟨by omega, by omega⟩ (fun v G2 hq => ?_)
  obtain ⟨rfl, hmd⟩ := hq
  refine x_as rfl rfl rfl ?_
  refine x_astore_n 16 C dL_law_15 rfl rfl rfl ?_
  refine x_iconst 17 C dL_law_16 rfl ?_
  refine x_newJ (kc0 := kc0) (ks0 := ks0) 19 C dL_law_17 rfl ⟨by omega, by omega⟩ (fun out hout => ?_)
  refine x_astore_n 20 C dL_law_19 rfl rfl rfl ?_
  refine x_iconst 21 C dL_law_20 rfl ?_
  refine x_istore 23 C dL_law_21 rfl rfl rfl ?_
  refine k _ B o out ?_
  have fm := hmd.1
  have fk : ∀ y, gK G1 y ≠ 0 → gK (nJ G2 out) y = gK G1 y := fun y hy => (show va_up (gK G2) out 26 y = _ from if_neg (fun z => by
    have h1 := fm.1 y hy
    rw [z] at h1
    rw [z] at hy
    exact hy (h1.symm.trans hout))).trans (fm.1 y hy)
  have e0 : gR (nJ G2 out) = rk00 := by
    funext i j
    exact hmd.2.2.1 i j
  have hom := rkMd_RM hmd
  have kk2 : ∀ y, gK G2 y ≠ 0 → gK (nJ G2 out) y = gK G2 y := fun y hy => show va_up (gK G2) out 26 y = _ from if_neg (fun z => hy (by rw [z]; exact hout))
  unfold rkLw
  rw [e0]
  refine ⟨⟨(kk2 o (by rw [hom.1]; decide)).trans hom.1, fun j hj hs => ⟨(hom.2 j hj hs).1, (kk2 (ra G2 o j) (by rw [(hom.2 j hj hs).2]; omega)).trans (hom.2 j hj hs).2⟩⟩, (show va_up (gK G2) out 26 out = 26 from if_pos rfl), ?_, ?_, rk00_Inv⟩
  · exact rk00_Z (rkFm_B fk fm.2.2.1 hB) (rkFm_Em fm.2.1 fm.2.2.2.1 hE) ((congrFun (congrFun fm.2.1 1407) (B 0)).trans (hI7 1407 (by decide) (by decide))) ((congrFun (congrFun fm.2.1 1408) (B 0)).trans (hI7 1408 (by decide) (by decide))) ((congrFun (congrFun fm.2.1 1409) (B 0)).trans (hI7 1409 (by decide) (by decide)))
  · exact rk00_Ps (rkFm_Em fm.2.1 fm.2.2.2.1 hE)
end LBEG
